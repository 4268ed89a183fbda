theorem dX9_init_0 : decode cX9_init 0 = .ok (.aload_n 0, 1) := by decide +kernel
theorem dX9_init_1 : decode cX9_init 1 = .ok (.invokespecial 3, 3) := by decide +kernel
theorem dX9_init_4 : decode cX9_init 4 = .ok (.aload_n 0, 1) := by decide +kernel
theorem dX9_init_5 : decode cX9_init 5 = .ok (.new 9, 3) := by decide +kernel
theorem dX9_init_8 : decode cX9_init 8 = .ok (.dup, 1) := by decide +kernel
theorem dX9_init_9 : decode cX9_init 9 = .ok (.invokespecial 11, 3) := by decide +kernel
theorem dX9_init_12 : decode cX9_init 12 = .ok (.putfield 12, 3) := by decide +kernel
theorem dX9_init_15 : decode cX9_init 15 = .ok (.aload_n 0, 1) := by decide +kernel
theorem dX9_init_16 : decode cX9_init 16 = .ok (.iconst 2, 1) := by decide +kernel
theorem dX9_init_17 : decode cX9_init 17 = .ok (.anewarray 9, 3) := by decide +kernel
theorem dX9_init_20 : decode cX9_init 20 = .ok (.putfield 16, 3) := by decide +kernel
theorem dX9_init_23 : decode cX9_init 23 = .ok (.aload_n 0, 1) := by decide +kernel
theorem dX9_init_24 : decode cX9_init 24 = .ok (.iconst 2, 1) := by decide +kernel
theorem dX9_init_25 : decode cX9_init 25 = .ok (.newarray .boolean, 2) := by decide +kernel
theorem dX9_init_27 : decode cX9_init 27 = .ok (.putfield 20, 3) := by decide +kernel
theorem dX9_init_30 : decode cX9_init 30 = .ok (.aload_n 0, 1) := by decide +kernel
theorem dX9_init_31 : decode cX9_init 31 = .ok (.new 24, 3) := by decide +kernel
theorem dX9_init_34 : decode cX9_init 34 = .ok (.dup, 1) := by decide +kernel
theorem dX9_init_35 : decode cX9_init 35 = .ok (.invokespecial 26, 3) := by decide +kernel
theorem dX9_init_38 : decode cX9_init 38 = .ok (.putfield 27, 3) := by decide +kernel
theorem dX9_init_41 : decode cX9_init 41 = .ok (.aload_n 0, 1) := by decide +kernel
theorem dX9_init_42 : decode cX9_init 42 = .ok (.aload_n 0, 1) := by decide +kernel
theorem dX9_init_43 : decode cX9_init 43 = .ok (.getfield 27, 3) := by decide +kernel
theorem dX9_init_46 : decode cX9_init 46 = .ok (.getfield 31, 3) := by decide +kernel
theorem dX9_init_49 : decode cX9_init 49 = .ok (.putfield 35, 3) := by decide +kernel
theorem dX9_init_52 : decode cX9_init 52 = .ok (.aload_n 0, 1) := by decide +kernel
theorem dX9_init_53 : decode cX9_init 53 = .ok (.new 36, 3) := by decide +kernel
theorem dX9_init_56 : decode cX9_init 56 = .ok (.dup, 1) := by decide +kernel
theorem dX9_init_57 : decode cX9_init 57 = .ok (.invokespecial 38, 3) := by decide +kernel
theorem dX9_init_60 : decode cX9_init 60 = .ok (.putfield 39, 3) := by decide +kernel
theorem dX9_init_63 : decode cX9_init 63 = .ok (.aload_n 0, 1) := by decide +kernel
theorem dX9_init_64 : decode cX9_init 64 = .ok (.new 43, 3) := by decide +kernel
theorem dX9_init_67 : decode cX9_init 67 = .ok (.dup, 1) := by decide +kernel
theorem dX9_init_68 : decode cX9_init 68 = .ok (.invokespecial 45, 3) := by decide +kernel
theorem dX9_init_71 : decode cX9_init 71 = .ok (.putfield 46, 3) := by decide +kernel
theorem dX9_init_74 : decode cX9_init 74 = .ok (.aload_n 0, 1) := by decide +kernel
theorem dX9_init_75 : decode cX9_init 75 = .ok (.new 50, 3) := by decide +kernel
theorem dX9_init_78 : decode cX9_init 78 = .ok (.dup, 1) := by decide +kernel
theorem dX9_init_79 : decode cX9_init 79 = .ok (.invokespecial 52, 3) := by decide +kernel
theorem dX9_init_82 : decode cX9_init 82 = .ok (.putfield 53, 3) := by decide +kernel
theorem dX9_init_85 : decode cX9_init 85 = .ok (.aload_n 0, 1) := by decide +kernel
theorem dX9_init_86 : decode cX9_init 86 = .ok (.new 57, 3) := by decide +kernel
theorem dX9_init_89 : decode cX9_init 89 = .ok (.dup, 1) := by decide +kernel
theorem dX9_init_90 : decode cX9_init 90 = .ok (.invokespecial 59, 3) := by decide +kernel
theorem dX9_init_93 : decode cX9_init 93 = .ok (.putfield 60, 3) := by decide +kernel
theorem dX9_init_96 : decode cX9_init 96 = .ok (.aload_n 0, 1) := by decide +kernel
theorem dX9_init_97 : decode cX9_init 97 = .ok (.iconst 5, 1) := by decide +kernel
theorem dX9_init_98 : decode cX9_init 98 = .ok (.newarray .int, 2) := by decide +kernel
theorem dX9_init_100 : decode cX9_init 100 = .ok (.putfield 64, 3) := by decide +kernel
theorem dX9_init_103 : decode cX9_init 103 = .ok (.aload_n 0, 1) := by decide +kernel
theorem dX9_init_104 : decode cX9_init 104 = .ok (.iconst (-1), 1) := by decide +kernel
theorem dX9_init_105 : decode cX9_init 105 = .ok (.putfield 68, 3) := by decide +kernel
theorem dX9_init_108 : decode cX9_init 108 = .ok (.aload_n 0, 1) := by decide +kernel
theorem dX9_init_109 : decode cX9_init 109 = .ok (.iconst (-1), 1) := by decide +kernel
theorem dX9_init_110 : decode cX9_init 110 = .ok (.putfield 72, 3) := by decide +kernel
theorem dX9_init_113 : decode cX9_init 113 = .ok (.iconst 0, 1) := by decide +kernel
theorem dX9_init_114 : decode cX9_init 114 = .ok (.istore_n 1, 1) := by decide +kernel
theorem dX9_init_115 : decode cX9_init 115 = .ok (.iload_n 1, 1) := by decide +kernel
theorem dX9_init_116 : decode cX9_init 116 = .ok (.iconst 2, 1) := by decide +kernel
theorem dX9_init_117 : decode cX9_init 117 = .ok (.if_icmp .ge 22, 3) := by decide +kernel
theorem dX9_init_120 : decode cX9_init 120 = .ok (.aload_n 0, 1) := by decide +kernel
theorem dX9_init_121 : decode cX9_init 121 = .ok (.getfield 16, 3) := by decide +kernel
theorem dX9_init_124 : decode cX9_init 124 = .ok (.iload_n 1, 1) := by decide +kernel
theorem dX9_init_125 : decode cX9_init 125 = .ok (.new 9, 3) := by decide +kernel
theorem dX9_init_128 : decode cX9_init 128 = .ok (.dup, 1) := by decide +kernel
theorem dX9_init_129 : decode cX9_init 129 = .ok (.invokespecial 11, 3) := by decide +kernel
theorem dX9_init_132 : decode cX9_init 132 = .ok (.aastore, 1) := by decide +kernel
theorem dX9_init_133 : decode cX9_init 133 = .ok (.iinc 1 1, 3) := by decide +kernel
theorem dX9_init_136 : decode cX9_init 136 = .ok (.goto (-21), 3) := by decide +kernel
theorem dX9_init_139 : decode cX9_init 139 = .ok (.return_, 1) := by decide +kernel
theorem dX9_glass_0 : decode cX9_glass 0 = .ok (.aload_n 0, 1) := by decide +kernel
theorem dX9_glass_1 : decode cX9_glass 1 = .ok (.aload_n 0, 1) := by decide +kernel
theorem dX9_glass_2 : decode cX9_glass 2 = .ok (.iload_n 1, 1) := by decide +kernel
theorem dX9_glass_3 : decode cX9_glass 3 = .ok (.invokevirtual 75, 3) := by decide +kernel
theorem dX9_glass_6 : decode cX9_glass 6 = .ok (.invokevirtual 79, 3) := by decide +kernel
theorem dX9_glass_9 : decode cX9_glass 9 = .ok (.ireturn, 1) := by decide +kernel
theorem dX9_addGlass_0 : decode cX9_addGlass 0 = .ok (.iload_n 1, 1) := by decide +kernel
theorem dX9_addGlass_1 : decode cX9_addGlass 1 = .ok (.invokestatic 82, 3) := by decide +kernel
theorem dX9_addGlass_4 : decode cX9_addGlass 4 = .ok (.ifCond .ne 5, 3) := by decide +kernel
theorem dX9_addGlass_7 : decode cX9_addGlass 7 = .ok (.iconst (-1), 1) := by decide +kernel
theorem dX9_addGlass_8 : decode cX9_addGlass 8 = .ok (.ireturn, 1) := by decide +kernel
theorem dX9_addGlass_9 : decode cX9_addGlass 9 = .ok (.aload_n 0, 1) := by decide +kernel
theorem dX9_addGlass_10 : decode cX9_addGlass 10 = .ok (.getfield 12, 3) := by decide +kernel
theorem dX9_addGlass_13 : decode cX9_addGlass 13 = .ok (.getfield 86, 3) := by decide +kernel
theorem dX9_addGlass_16 : decode cX9_addGlass 16 = .ok (.iload_n 1, 1) := by decide +kernel
theorem dX9_addGlass_17 : decode cX9_addGlass 17 = .ok (.invokevirtual 89, 3) := by decide +kernel
theorem dX9_addGlass_20 : decode cX9_addGlass 20 = .ok (.ireturn, 1) := by decide +kernel
theorem dX9_of_0 : decode cX9_of 0 = .ok (.iload_n 2, 1) := by decide +kernel
theorem dX9_of_1 : decode cX9_of 1 = .ok (.ifCond .ne 29, 3) := by decide +kernel
theorem dX9_of_4 : decode cX9_of 4 = .ok (.aload_n 0, 1) := by decide +kernel
theorem dX9_of_5 : decode cX9_of 5 = .ok (.getfield 12, 3) := by decide +kernel
theorem dX9_of_8 : decode cX9_of 8 = .ok (.getfield 86, 3) := by decide +kernel
theorem dX9_of_11 : decode cX9_of 11 = .ok (.iload_n 1, 1) := by decide +kernel
theorem dX9_of_12 : decode cX9_of 12 = .ok (.invokevirtual 92, 3) := by decide +kernel
theorem dX9_of_15 : decode cX9_of 15 = .ok (.ifCond .eq 15, 3) := by decide +kernel
theorem dX9_of_18 : decode cX9_of 18 = .ok (.aload_n 0, 1) := by decide +kernel
theorem dX9_of_19 : decode cX9_of 19 = .ok (.getfield 12, 3) := by decide +kernel
theorem dX9_of_22 : decode cX9_of 22 = .ok (.getfield 86, 3) := by decide +kernel
theorem dX9_of_25 : decode cX9_of 25 = .ok (.iload_n 1, 1) := by decide +kernel
theorem dX9_of_26 : decode cX9_of 26 = .ok (.invokevirtual 95, 3) := by decide +kernel
theorem dX9_of_29 : decode cX9_of 29 = .ok (.ireturn, 1) := by decide +kernel
theorem dX9_of_30 : decode cX9_of 30 = .ok (.iload_n 2, 1) := by decide +kernel
theorem dX9_of_31 : decode cX9_of 31 = .ok (.iconst 1, 1) := by decide +kernel
theorem dX9_of_32 : decode cX9_of 32 = .ok (.if_icmp .ne 29, 3) := by decide +kernel
theorem dX9_of_35 : decode cX9_of 35 = .ok (.aload_n 0, 1) := by decide +kernel
theorem dX9_of_36 : decode cX9_of 36 = .ok (.getfield 12, 3) := by decide +kernel
theorem dX9_of_39 : decode cX9_of 39 = .ok (.getfield 86, 3) := by decide +kernel
theorem dX9_of_42 : decode cX9_of 42 = .ok (.iload_n 1, 1) := by decide +kernel
theorem dX9_of_43 : decode cX9_of 43 = .ok (.invokevirtual 92, 3) := by decide +kernel
theorem dX9_of_46 : decode cX9_of 46 = .ok (.ifCond .eq 15, 3) := by decide +kernel
theorem dX9_of_49 : decode cX9_of 49 = .ok (.aload_n 0, 1) := by decide +kernel
theorem dX9_of_50 : decode cX9_of 50 = .ok (.getfield 12, 3) := by decide +kernel
theorem dX9_of_53 : decode cX9_of 53 = .ok (.getfield 86, 3) := by decide +kernel
theorem dX9_of_56 : decode cX9_of 56 = .ok (.iload_n 1, 1) := by decide +kernel
theorem dX9_of_57 : decode cX9_of 57 = .ok (.invokevirtual 98, 3) := by decide +kernel
theorem dX9_of_60 : decode cX9_of 60 = .ok (.ireturn, 1) := by decide +kernel
theorem dX9_of_61 : decode cX9_of 61 = .ok (.iconst (-1), 1) := by decide +kernel
theorem dX9_of_62 : decode cX9_of 62 = .ok (.ireturn, 1) := by decide +kernel
theorem dX9_part_0 : decode cX9_part 0 = .ok (.aload_n 0, 1) := by decide +kernel
theorem dX9_part_1 : decode cX9_part 1 = .ok (.getfield 12, 3) := by decide +kernel
theorem dX9_part_4 : decode cX9_part 4 = .ok (.getfield 86, 3) := by decide +kernel
theorem dX9_part_7 : decode cX9_part 7 = .ok (.iload_n 1, 1) := by decide +kernel
theorem dX9_part_8 : decode cX9_part 8 = .ok (.invokevirtual 92, 3) := by decide +kernel
theorem dX9_part_11 : decode cX9_part 11 = .ok (.ifCond .eq 10, 3) := by decide +kernel
theorem dX9_part_14 : decode cX9_part 14 = .ok (.iload_n 2, 1) := by decide +kernel
theorem dX9_part_15 : decode cX9_part 15 = .ok (.invokestatic 101, 3) := by decide +kernel
theorem dX9_part_18 : decode cX9_part 18 = .ok (.ifCond .ne 7, 3) := by decide +kernel
theorem dX9_part_21 : decode cX9_part 21 = .ok (.ldc2_w 104, 3) := by decide +kernel
theorem dX9_part_24 : decode cX9_part 24 = .ok (.lreturn, 1) := by decide +kernel
theorem dX9_part_25 : decode cX9_part 25 = .ok (.aload_n 0, 1) := by decide +kernel
theorem dX9_part_26 : decode cX9_part 26 = .ok (.getfield 12, 3) := by decide +kernel
theorem dX9_part_29 : decode cX9_part 29 = .ok (.getfield 86, 3) := by decide +kernel
theorem dX9_part_32 : decode cX9_part 32 = .ok (.iload_n 1, 1) := by decide +kernel
theorem dX9_part_33 : decode cX9_part 33 = .ok (.iload_n 2, 1) := by decide +kernel
theorem dX9_part_34 : decode cX9_part 34 = .ok (.invokevirtual 106, 3) := by decide +kernel
theorem dX9_part_37 : decode cX9_part 37 = .ok (.lreturn, 1) := by decide +kernel
theorem dX9_lower_0 : decode cX9_lower 0 = .ok (.aload_n 0, 1) := by decide +kernel
theorem dX9_lower_1 : decode cX9_lower 1 = .ok (.getfield 12, 3) := by decide +kernel
theorem dX9_lower_4 : decode cX9_lower 4 = .ok (.getfield 86, 3) := by decide +kernel
theorem dX9_lower_7 : decode cX9_lower 7 = .ok (.getfield 110, 3) := by decide +kernel
theorem dX9_lower_10 : decode cX9_lower 10 = .ok (.lreturn, 1) := by decide +kernel
theorem dX9_taste_0 : decode cX9_taste 0 = .ok (.aload_n 0, 1) := by decide +kernel
theorem dX9_taste_1 : decode cX9_taste 1 = .ok (.getfield 12, 3) := by decide +kernel
theorem dX9_taste_4 : decode cX9_taste 4 = .ok (.getfield 86, 3) := by decide +kernel
theorem dX9_taste_7 : decode cX9_taste 7 = .ok (.iload_n 1, 1) := by decide +kernel
theorem dX9_taste_8 : decode cX9_taste 8 = .ok (.invokevirtual 92, 3) := by decide +kernel
theorem dX9_taste_11 : decode cX9_taste 11 = .ok (.ifCond .eq 10, 3) := by decide +kernel
theorem dX9_taste_14 : decode cX9_taste 14 = .ok (.iload_n 2, 1) := by decide +kernel
theorem dX9_taste_15 : decode cX9_taste 15 = .ok (.invokestatic 101, 3) := by decide +kernel
theorem dX9_taste_18 : decode cX9_taste 18 = .ok (.ifCond .ne 5, 3) := by decide +kernel
theorem dX9_taste_21 : decode cX9_taste 21 = .ok (.iconst (-1), 1) := by decide +kernel
theorem dX9_taste_22 : decode cX9_taste 22 = .ok (.ireturn, 1) := by decide +kernel
theorem dX9_taste_23 : decode cX9_taste 23 = .ok (.aload_n 0, 1) := by decide +kernel
theorem dX9_taste_24 : decode cX9_taste 24 = .ok (.getfield 12, 3) := by decide +kernel
theorem dX9_taste_27 : decode cX9_taste 27 = .ok (.getfield 86, 3) := by decide +kernel
theorem dX9_taste_30 : decode cX9_taste 30 = .ok (.iload_n 1, 1) := by decide +kernel
theorem dX9_taste_31 : decode cX9_taste 31 = .ok (.iload_n 2, 1) := by decide +kernel
theorem dX9_taste_32 : decode cX9_taste 32 = .ok (.invokevirtual 114, 3) := by decide +kernel
theorem dX9_taste_35 : decode cX9_taste 35 = .ok (.ireturn, 1) := by decide +kernel
theorem dX9_fill_0 : decode cX9_fill 0 = .ok (.aload_n 0, 1) := by decide +kernel
theorem dX9_fill_1 : decode cX9_fill 1 = .ok (.aload_n 0, 1) := by decide +kernel
theorem dX9_fill_2 : decode cX9_fill 2 = .ok (.iload_n 1, 1) := by decide +kernel
theorem dX9_fill_3 : decode cX9_fill 3 = .ok (.iload_n 2, 1) := by decide +kernel
theorem dX9_fill_4 : decode cX9_fill 4 = .ok (.iload_n 3, 1) := by decide +kernel
theorem dX9_fill_5 : decode cX9_fill 5 = .ok (.invokevirtual 118, 3) := by decide +kernel
theorem dX9_fill_8 : decode cX9_fill 8 = .ok (.invokevirtual 79, 3) := by decide +kernel
theorem dX9_fill_11 : decode cX9_fill 11 = .ok (.ireturn, 1) := by decide +kernel
theorem dX9_fillGlass_0 : decode cX9_fillGlass 0 = .ok (.iload_n 2, 1) := by decide +kernel
theorem dX9_fillGlass_1 : decode cX9_fillGlass 1 = .ok (.invokestatic 101, 3) := by decide +kernel
theorem dX9_fillGlass_4 : decode cX9_fillGlass 4 = .ok (.ifCond .eq 10, 3) := by decide +kernel
theorem dX9_fillGlass_7 : decode cX9_fillGlass 7 = .ok (.iload_n 3, 1) := by decide +kernel
theorem dX9_fillGlass_8 : decode cX9_fillGlass 8 = .ok (.invokestatic 82, 3) := by decide +kernel
theorem dX9_fillGlass_11 : decode cX9_fillGlass 11 = .ok (.ifCond .ne 5, 3) := by decide +kernel
theorem dX9_fillGlass_14 : decode cX9_fillGlass 14 = .ok (.iconst (-1), 1) := by decide +kernel
theorem dX9_fillGlass_15 : decode cX9_fillGlass 15 = .ok (.ireturn, 1) := by decide +kernel
theorem dX9_fillGlass_16 : decode cX9_fillGlass 16 = .ok (.aload_n 0, 1) := by decide +kernel
theorem dX9_fillGlass_17 : decode cX9_fillGlass 17 = .ok (.getfield 12, 3) := by decide +kernel
theorem dX9_fillGlass_20 : decode cX9_fillGlass 20 = .ok (.getfield 86, 3) := by decide +kernel
theorem dX9_fillGlass_23 : decode cX9_fillGlass 23 = .ok (.iload_n 1, 1) := by decide +kernel
theorem dX9_fillGlass_24 : decode cX9_fillGlass 24 = .ok (.invokevirtual 92, 3) := by decide +kernel
theorem dX9_fillGlass_27 : decode cX9_fillGlass 27 = .ok (.ifCond .ne 6, 3) := by decide +kernel
theorem dX9_fillGlass_30 : decode cX9_fillGlass 30 = .ok (.bipush (-2), 2) := by decide +kernel
theorem dX9_fillGlass_32 : decode cX9_fillGlass 32 = .ok (.ireturn, 1) := by decide +kernel
theorem dX9_fillGlass_33 : decode cX9_fillGlass 33 = .ok (.aload_n 0, 1) := by decide +kernel
theorem dX9_fillGlass_34 : decode cX9_fillGlass 34 = .ok (.getfield 12, 3) := by decide +kernel
theorem dX9_fillGlass_37 : decode cX9_fillGlass 37 = .ok (.getfield 86, 3) := by decide +kernel
theorem dX9_fillGlass_40 : decode cX9_fillGlass 40 = .ok (.iload_n 1, 1) := by decide +kernel
theorem dX9_fillGlass_41 : decode cX9_fillGlass 41 = .ok (.iload_n 2, 1) := by decide +kernel
theorem dX9_fillGlass_42 : decode cX9_fillGlass 42 = .ok (.iload_n 3, 1) := by decide +kernel
theorem dX9_fillGlass_43 : decode cX9_fillGlass 43 = .ok (.invokevirtual 122, 3) := by decide +kernel
theorem dX9_fillGlass_46 : decode cX9_fillGlass 46 = .ok (.istore 4, 2) := by decide +kernel
theorem dX9_fillGlass_48 : decode cX9_fillGlass 48 = .ok (.iload 4, 2) := by decide +kernel
theorem dX9_fillGlass_50 : decode cX9_fillGlass 50 = .ok (.ifCond .ge 8, 3) := by decide +kernel
theorem dX9_fillGlass_53 : decode cX9_fillGlass 53 = .ok (.iload 4, 2) := by decide +kernel
theorem dX9_fillGlass_55 : decode cX9_fillGlass 55 = .ok (.goto 14, 3) := by decide +kernel
theorem dX9_fillGlass_58 : decode cX9_fillGlass 58 = .ok (.aload_n 0, 1) := by decide +kernel
theorem dX9_fillGlass_59 : decode cX9_fillGlass 59 = .ok (.getfield 12, 3) := by decide +kernel
theorem dX9_fillGlass_62 : decode cX9_fillGlass 62 = .ok (.getfield 86, 3) := by decide +kernel
theorem dX9_fillGlass_65 : decode cX9_fillGlass 65 = .ok (.iload_n 1, 1) := by decide +kernel
theorem dX9_fillGlass_66 : decode cX9_fillGlass 66 = .ok (.invokevirtual 98, 3) := by decide +kernel
theorem dX9_fillGlass_69 : decode cX9_fillGlass 69 = .ok (.ireturn, 1) := by decide +kernel
theorem dX9_spoon_0 : decode cX9_spoon 0 = .ok (.aload_n 0, 1) := by decide +kernel
theorem dX9_spoon_1 : decode cX9_spoon 1 = .ok (.aload_n 0, 1) := by decide +kernel
theorem dX9_spoon_2 : decode cX9_spoon 2 = .ok (.iload_n 1, 1) := by decide +kernel
theorem dX9_spoon_3 : decode cX9_spoon 3 = .ok (.iload_n 2, 1) := by decide +kernel
theorem dX9_spoon_4 : decode cX9_spoon 4 = .ok (.iload_n 3, 1) := by decide +kernel
theorem dX9_spoon_5 : decode cX9_spoon 5 = .ok (.invokevirtual 125, 3) := by decide +kernel
theorem dX9_spoon_8 : decode cX9_spoon 8 = .ok (.invokevirtual 79, 3) := by decide +kernel
theorem dX9_spoon_11 : decode cX9_spoon 11 = .ok (.ireturn, 1) := by decide +kernel
theorem dX9_spoonGlass_0 : decode cX9_spoonGlass 0 = .ok (.iload_n 3, 1) := by decide +kernel
theorem dX9_spoonGlass_1 : decode cX9_spoonGlass 1 = .ok (.invokestatic 82, 3) := by decide +kernel
theorem dX9_spoonGlass_4 : decode cX9_spoonGlass 4 = .ok (.ifCond .ne 5, 3) := by decide +kernel
theorem dX9_spoonGlass_7 : decode cX9_spoonGlass 7 = .ok (.iconst (-1), 1) := by decide +kernel
theorem dX9_spoonGlass_8 : decode cX9_spoonGlass 8 = .ok (.ireturn, 1) := by decide +kernel
theorem dX9_spoonGlass_9 : decode cX9_spoonGlass 9 = .ok (.aload_n 0, 1) := by decide +kernel
theorem dX9_spoonGlass_10 : decode cX9_spoonGlass 10 = .ok (.getfield 12, 3) := by decide +kernel
theorem dX9_spoonGlass_13 : decode cX9_spoonGlass 13 = .ok (.getfield 86, 3) := by decide +kernel
theorem dX9_spoonGlass_16 : decode cX9_spoonGlass 16 = .ok (.iload_n 1, 1) := by decide +kernel
theorem dX9_spoonGlass_17 : decode cX9_spoonGlass 17 = .ok (.invokevirtual 92, 3) := by decide +kernel
theorem dX9_spoonGlass_20 : decode cX9_spoonGlass 20 = .ok (.ifCond .eq 17, 3) := by decide +kernel
theorem dX9_spoonGlass_23 : decode cX9_spoonGlass 23 = .ok (.aload_n 0, 1) := by decide +kernel
theorem dX9_spoonGlass_24 : decode cX9_spoonGlass 24 = .ok (.getfield 12, 3) := by decide +kernel
theorem dX9_spoonGlass_27 : decode cX9_spoonGlass 27 = .ok (.getfield 86, 3) := by decide +kernel
theorem dX9_spoonGlass_30 : decode cX9_spoonGlass 30 = .ok (.iload_n 2, 1) := by decide +kernel
theorem dX9_spoonGlass_31 : decode cX9_spoonGlass 31 = .ok (.invokevirtual 92, 3) := by decide +kernel
theorem dX9_spoonGlass_34 : decode cX9_spoonGlass 34 = .ok (.ifCond .ne 6, 3) := by decide +kernel
theorem dX9_spoonGlass_37 : decode cX9_spoonGlass 37 = .ok (.bipush (-2), 2) := by decide +kernel
theorem dX9_spoonGlass_39 : decode cX9_spoonGlass 39 = .ok (.ireturn, 1) := by decide +kernel
theorem dX9_spoonGlass_40 : decode cX9_spoonGlass 40 = .ok (.aload_n 0, 1) := by decide +kernel
theorem dX9_spoonGlass_41 : decode cX9_spoonGlass 41 = .ok (.getfield 12, 3) := by decide +kernel
theorem dX9_spoonGlass_44 : decode cX9_spoonGlass 44 = .ok (.getfield 86, 3) := by decide +kernel
theorem dX9_spoonGlass_47 : decode cX9_spoonGlass 47 = .ok (.iload_n 1, 1) := by decide +kernel
theorem dX9_spoonGlass_48 : decode cX9_spoonGlass 48 = .ok (.iload_n 2, 1) := by decide +kernel
theorem dX9_spoonGlass_49 : decode cX9_spoonGlass 49 = .ok (.iload_n 3, 1) := by decide +kernel
theorem dX9_spoonGlass_50 : decode cX9_spoonGlass 50 = .ok (.invokevirtual 128, 3) := by decide +kernel
theorem dX9_spoonGlass_53 : decode cX9_spoonGlass 53 = .ok (.istore 4, 2) := by decide +kernel
theorem dX9_spoonGlass_55 : decode cX9_spoonGlass 55 = .ok (.iload 4, 2) := by decide +kernel
theorem dX9_spoonGlass_57 : decode cX9_spoonGlass 57 = .ok (.ifCond .ge 6, 3) := by decide +kernel
theorem dX9_spoonGlass_60 : decode cX9_spoonGlass 60 = .ok (.iload 4, 2) := by decide +kernel
theorem dX9_spoonGlass_62 : decode cX9_spoonGlass 62 = .ok (.ireturn, 1) := by decide +kernel
theorem dX9_spoonGlass_63 : decode cX9_spoonGlass 63 = .ok (.aload_n 0, 1) := by decide +kernel
theorem dX9_spoonGlass_64 : decode cX9_spoonGlass 64 = .ok (.getfield 12, 3) := by decide +kernel
theorem dX9_spoonGlass_67 : decode cX9_spoonGlass 67 = .ok (.getfield 86, 3) := by decide +kernel
theorem dX9_spoonGlass_70 : decode cX9_spoonGlass 70 = .ok (.invokevirtual 131, 3) := by decide +kernel
theorem dX9_spoonGlass_73 : decode cX9_spoonGlass 73 = .ok (.aload_n 0, 1) := by decide +kernel
theorem dX9_spoonGlass_74 : decode cX9_spoonGlass 74 = .ok (.getfield 12, 3) := by decide +kernel
theorem dX9_spoonGlass_77 : decode cX9_spoonGlass 77 = .ok (.getfield 86, 3) := by decide +kernel
theorem dX9_spoonGlass_80 : decode cX9_spoonGlass 80 = .ok (.iload_n 2, 1) := by decide +kernel
theorem dX9_spoonGlass_81 : decode cX9_spoonGlass 81 = .ok (.invokevirtual 98, 3) := by decide +kernel
theorem dX9_spoonGlass_84 : decode cX9_spoonGlass 84 = .ok (.ireturn, 1) := by decide +kernel
theorem dX9_lick_0 : decode cX9_lick 0 = .ok (.aload_n 0, 1) := by decide +kernel
theorem dX9_lick_1 : decode cX9_lick 1 = .ok (.aload_n 0, 1) := by decide +kernel
theorem dX9_lick_2 : decode cX9_lick 2 = .ok (.iload_n 1, 1) := by decide +kernel
theorem dX9_lick_3 : decode cX9_lick 3 = .ok (.iload_n 2, 1) := by decide +kernel
theorem dX9_lick_4 : decode cX9_lick 4 = .ok (.invokevirtual 134, 3) := by decide +kernel
theorem dX9_lick_7 : decode cX9_lick 7 = .ok (.invokevirtual 79, 3) := by decide +kernel
theorem dX9_lick_10 : decode cX9_lick 10 = .ok (.ireturn, 1) := by decide +kernel
theorem dX9_lickGlass_0 : decode cX9_lickGlass 0 = .ok (.iload_n 2, 1) := by decide +kernel
theorem dX9_lickGlass_1 : decode cX9_lickGlass 1 = .ok (.invokestatic 82, 3) := by decide +kernel
theorem dX9_lickGlass_4 : decode cX9_lickGlass 4 = .ok (.ifCond .ne 5, 3) := by decide +kernel
theorem dX9_lickGlass_7 : decode cX9_lickGlass 7 = .ok (.iconst (-1), 1) := by decide +kernel
theorem dX9_lickGlass_8 : decode cX9_lickGlass 8 = .ok (.ireturn, 1) := by decide +kernel
theorem dX9_lickGlass_9 : decode cX9_lickGlass 9 = .ok (.aload_n 0, 1) := by decide +kernel
theorem dX9_lickGlass_10 : decode cX9_lickGlass 10 = .ok (.getfield 12, 3) := by decide +kernel
theorem dX9_lickGlass_13 : decode cX9_lickGlass 13 = .ok (.getfield 86, 3) := by decide +kernel
theorem dX9_lickGlass_16 : decode cX9_lickGlass 16 = .ok (.iload_n 1, 1) := by decide +kernel
theorem dX9_lickGlass_17 : decode cX9_lickGlass 17 = .ok (.invokevirtual 92, 3) := by decide +kernel
theorem dX9_lickGlass_20 : decode cX9_lickGlass 20 = .ok (.ifCond .ne 6, 3) := by decide +kernel
theorem dX9_lickGlass_23 : decode cX9_lickGlass 23 = .ok (.bipush (-2), 2) := by decide +kernel
theorem dX9_lickGlass_25 : decode cX9_lickGlass 25 = .ok (.ireturn, 1) := by decide +kernel
theorem dX9_lickGlass_26 : decode cX9_lickGlass 26 = .ok (.aload_n 0, 1) := by decide +kernel
theorem dX9_lickGlass_27 : decode cX9_lickGlass 27 = .ok (.getfield 12, 3) := by decide +kernel
theorem dX9_lickGlass_30 : decode cX9_lickGlass 30 = .ok (.getfield 86, 3) := by decide +kernel
theorem dX9_lickGlass_33 : decode cX9_lickGlass 33 = .ok (.iload_n 1, 1) := by decide +kernel
theorem dX9_lickGlass_34 : decode cX9_lickGlass 34 = .ok (.iload_n 2, 1) := by decide +kernel
theorem dX9_lickGlass_35 : decode cX9_lickGlass 35 = .ok (.invokevirtual 137, 3) := by decide +kernel
theorem dX9_lickGlass_38 : decode cX9_lickGlass 38 = .ok (.istore_n 3, 1) := by decide +kernel
theorem dX9_lickGlass_39 : decode cX9_lickGlass 39 = .ok (.iload_n 3, 1) := by decide +kernel
theorem dX9_lickGlass_40 : decode cX9_lickGlass 40 = .ok (.ifCond .ge 5, 3) := by decide +kernel
theorem dX9_lickGlass_43 : decode cX9_lickGlass 43 = .ok (.iload_n 3, 1) := by decide +kernel
theorem dX9_lickGlass_44 : decode cX9_lickGlass 44 = .ok (.ireturn, 1) := by decide +kernel
theorem dX9_lickGlass_45 : decode cX9_lickGlass 45 = .ok (.aload_n 0, 1) := by decide +kernel
theorem dX9_lickGlass_46 : decode cX9_lickGlass 46 = .ok (.getfield 12, 3) := by decide +kernel
theorem dX9_lickGlass_49 : decode cX9_lickGlass 49 = .ok (.getfield 86, 3) := by decide +kernel
theorem dX9_lickGlass_52 : decode cX9_lickGlass 52 = .ok (.invokevirtual 131, 3) := by decide +kernel
theorem dX9_lickGlass_55 : decode cX9_lickGlass 55 = .ok (.aload_n 0, 1) := by decide +kernel
theorem dX9_lickGlass_56 : decode cX9_lickGlass 56 = .ok (.getfield 12, 3) := by decide +kernel
theorem dX9_lickGlass_59 : decode cX9_lickGlass 59 = .ok (.getfield 86, 3) := by decide +kernel
theorem dX9_lickGlass_62 : decode cX9_lickGlass 62 = .ok (.iload_n 1, 1) := by decide +kernel
theorem dX9_lickGlass_63 : decode cX9_lickGlass 63 = .ok (.invokevirtual 98, 3) := by decide +kernel
theorem dX9_lickGlass_66 : decode cX9_lickGlass 66 = .ok (.ireturn, 1) := by decide +kernel
theorem dX9_empty_0 : decode cX9_empty 0 = .ok (.aload_n 0, 1) := by decide +kernel
theorem dX9_empty_1 : decode cX9_empty 1 = .ok (.aload_n 0, 1) := by decide +kernel
theorem dX9_empty_2 : decode cX9_empty 2 = .ok (.iload_n 1, 1) := by decide +kernel
theorem dX9_empty_3 : decode cX9_empty 3 = .ok (.invokevirtual 140, 3) := by decide +kernel
theorem dX9_empty_6 : decode cX9_empty 6 = .ok (.invokevirtual 79, 3) := by decide +kernel
theorem dX9_empty_9 : decode cX9_empty 9 = .ok (.ireturn, 1) := by decide +kernel
theorem dX9_emptyGlass_0 : decode cX9_emptyGlass 0 = .ok (.aload_n 0, 1) := by decide +kernel
theorem dX9_emptyGlass_1 : decode cX9_emptyGlass 1 = .ok (.getfield 12, 3) := by decide +kernel
theorem dX9_emptyGlass_4 : decode cX9_emptyGlass 4 = .ok (.getfield 86, 3) := by decide +kernel
theorem dX9_emptyGlass_7 : decode cX9_emptyGlass 7 = .ok (.iload_n 1, 1) := by decide +kernel
theorem dX9_emptyGlass_8 : decode cX9_emptyGlass 8 = .ok (.invokevirtual 92, 3) := by decide +kernel
theorem dX9_emptyGlass_11 : decode cX9_emptyGlass 11 = .ok (.ifCond .ne 6, 3) := by decide +kernel
theorem dX9_emptyGlass_14 : decode cX9_emptyGlass 14 = .ok (.bipush (-2), 2) := by decide +kernel
theorem dX9_emptyGlass_16 : decode cX9_emptyGlass 16 = .ok (.ireturn, 1) := by decide +kernel
theorem dX9_emptyGlass_17 : decode cX9_emptyGlass 17 = .ok (.aload_n 0, 1) := by decide +kernel
theorem dX9_emptyGlass_18 : decode cX9_emptyGlass 18 = .ok (.getfield 12, 3) := by decide +kernel
theorem dX9_emptyGlass_21 : decode cX9_emptyGlass 21 = .ok (.getfield 86, 3) := by decide +kernel
theorem dX9_emptyGlass_24 : decode cX9_emptyGlass 24 = .ok (.iload_n 1, 1) := by decide +kernel
theorem dX9_emptyGlass_25 : decode cX9_emptyGlass 25 = .ok (.invokevirtual 98, 3) := by decide +kernel
theorem dX9_emptyGlass_28 : decode cX9_emptyGlass 28 = .ok (.istore_n 2, 1) := by decide +kernel
theorem dX9_emptyGlass_29 : decode cX9_emptyGlass 29 = .ok (.aload_n 0, 1) := by decide +kernel
theorem dX9_emptyGlass_30 : decode cX9_emptyGlass 30 = .ok (.getfield 12, 3) := by decide +kernel
theorem dX9_emptyGlass_33 : decode cX9_emptyGlass 33 = .ok (.getfield 86, 3) := by decide +kernel
theorem dX9_emptyGlass_36 : decode cX9_emptyGlass 36 = .ok (.iload_n 1, 1) := by decide +kernel
theorem dX9_emptyGlass_37 : decode cX9_emptyGlass 37 = .ok (.invokevirtual 143, 3) := by decide +kernel
theorem dX9_emptyGlass_40 : decode cX9_emptyGlass 40 = .ok (.aload_n 0, 1) := by decide +kernel
theorem dX9_emptyGlass_41 : decode cX9_emptyGlass 41 = .ok (.getfield 12, 3) := by decide +kernel
theorem dX9_emptyGlass_44 : decode cX9_emptyGlass 44 = .ok (.getfield 86, 3) := by decide +kernel
theorem dX9_emptyGlass_47 : decode cX9_emptyGlass 47 = .ok (.invokevirtual 131, 3) := by decide +kernel
theorem dX9_emptyGlass_50 : decode cX9_emptyGlass 50 = .ok (.iload_n 2, 1) := by decide +kernel
theorem dX9_emptyGlass_51 : decode cX9_emptyGlass 51 = .ok (.ireturn, 1) := by decide +kernel
theorem dX9_feed_0 : decode cX9_feed 0 = .ok (.aload_n 0, 1) := by decide +kernel
theorem dX9_feed_1 : decode cX9_feed 1 = .ok (.getfield 35, 3) := by decide +kernel
theorem dX9_feed_4 : decode cX9_feed 4 = .ok (.getfield 147, 3) := by decide +kernel
theorem dX9_feed_7 : decode cX9_feed 7 = .ok (.bipush 20, 2) := by decide +kernel
theorem dX9_feed_9 : decode cX9_feed 9 = .ok (.iadd, 1) := by decide +kernel
theorem dX9_feed_10 : decode cX9_feed 10 = .ok (.sipush 400, 3) := by decide +kernel
theorem dX9_feed_13 : decode cX9_feed 13 = .ok (.if_icmp .le 5, 3) := by decide +kernel
theorem dX9_feed_16 : decode cX9_feed 16 = .ok (.iconst (-1), 1) := by decide +kernel
theorem dX9_feed_17 : decode cX9_feed 17 = .ok (.ireturn, 1) := by decide +kernel
theorem dX9_feed_18 : decode cX9_feed 18 = .ok (.aload_n 0, 1) := by decide +kernel
theorem dX9_feed_19 : decode cX9_feed 19 = .ok (.getfield 35, 3) := by decide +kernel
theorem dX9_feed_22 : decode cX9_feed 22 = .ok (.iload_n 1, 1) := by decide +kernel
theorem dX9_feed_23 : decode cX9_feed 23 = .ok (.invokevirtual 152, 3) := by decide +kernel
theorem dX9_feed_26 : decode cX9_feed 26 = .ok (.aload_n 0, 1) := by decide +kernel
theorem dX9_feed_27 : decode cX9_feed 27 = .ok (.getfield 35, 3) := by decide +kernel
theorem dX9_feed_30 : decode cX9_feed 30 = .ok (.iload_n 2, 1) := by decide +kernel
theorem dX9_feed_31 : decode cX9_feed 31 = .ok (.invokevirtual 152, 3) := by decide +kernel
theorem dX9_feed_34 : decode cX9_feed 34 = .ok (.aload_n 0, 1) := by decide +kernel
theorem dX9_feed_35 : decode cX9_feed 35 = .ok (.getfield 35, 3) := by decide +kernel
theorem dX9_feed_38 : decode cX9_feed 38 = .ok (.iload_n 3, 1) := by decide +kernel
theorem dX9_feed_39 : decode cX9_feed 39 = .ok (.invokevirtual 152, 3) := by decide +kernel
theorem dX9_feed_42 : decode cX9_feed 42 = .ok (.aload_n 0, 1) := by decide +kernel
theorem dX9_feed_43 : decode cX9_feed 43 = .ok (.getfield 35, 3) := by decide +kernel
theorem dX9_feed_46 : decode cX9_feed 46 = .ok (.iload 4, 2) := by decide +kernel
theorem dX9_feed_48 : decode cX9_feed 48 = .ok (.invokevirtual 152, 3) := by decide +kernel
theorem dX9_feed_51 : decode cX9_feed 51 = .ok (.aload_n 0, 1) := by decide +kernel
theorem dX9_feed_52 : decode cX9_feed 52 = .ok (.getfield 35, 3) := by decide +kernel
theorem dX9_feed_55 : decode cX9_feed 55 = .ok (.iload 5, 2) := by decide +kernel
theorem dX9_feed_57 : decode cX9_feed 57 = .ok (.invokevirtual 152, 3) := by decide +kernel
theorem dX9_feed_60 : decode cX9_feed 60 = .ok (.aload_n 0, 1) := by decide +kernel
theorem dX9_feed_61 : decode cX9_feed 61 = .ok (.getfield 35, 3) := by decide +kernel
theorem dX9_feed_64 : decode cX9_feed 64 = .ok (.getfield 147, 3) := by decide +kernel
theorem dX9_feed_67 : decode cX9_feed 67 = .ok (.ireturn, 1) := by decide +kernel
theorem dX9_end_0 : decode cX9_end 0 = .ok (.iload_n 1, 1) := by decide +kernel
theorem dX9_end_1 : decode cX9_end 1 = .ok (.ifCond .lt 14, 3) := by decide +kernel
theorem dX9_end_4 : decode cX9_end 4 = .ok (.iload_n 1, 1) := by decide +kernel
theorem dX9_end_5 : decode cX9_end 5 = .ok (.aload_n 0, 1) := by decide +kernel
theorem dX9_end_6 : decode cX9_end 6 = .ok (.getfield 35, 3) := by decide +kernel
theorem dX9_end_9 : decode cX9_end 9 = .ok (.getfield 147, 3) := by decide +kernel
theorem dX9_end_12 : decode cX9_end 12 = .ok (.if_icmp .le 5, 3) := by decide +kernel
theorem dX9_end_15 : decode cX9_end 15 = .ok (.iconst (-1), 1) := by decide +kernel
theorem dX9_end_16 : decode cX9_end 16 = .ok (.ireturn, 1) := by decide +kernel
theorem dX9_end_17 : decode cX9_end 17 = .ok (.aload_n 0, 1) := by decide +kernel
theorem dX9_end_18 : decode cX9_end 18 = .ok (.getfield 35, 3) := by decide +kernel
theorem dX9_end_21 : decode cX9_end 21 = .ok (.iload_n 1, 1) := by decide +kernel
theorem dX9_end_22 : decode cX9_end 22 = .ok (.putfield 147, 3) := by decide +kernel
theorem dX9_end_25 : decode cX9_end 25 = .ok (.iload_n 1, 1) := by decide +kernel
theorem dX9_end_26 : decode cX9_end 26 = .ok (.ireturn, 1) := by decide +kernel
theorem dX9_row_0 : decode cX9_row 0 = .ok (.aload_n 0, 1) := by decide +kernel
theorem dX9_row_1 : decode cX9_row 1 = .ok (.invokevirtual 155, 3) := by decide +kernel
theorem dX9_row_4 : decode cX9_row 4 = .ok (.istore_n 1, 1) := by decide +kernel
theorem dX9_row_5 : decode cX9_row 5 = .ok (.aload_n 0, 1) := by decide +kernel
theorem dX9_row_6 : decode cX9_row 6 = .ok (.getfield 35, 3) := by decide +kernel
theorem dX9_row_9 : decode cX9_row 9 = .ok (.iconst 0, 1) := by decide +kernel
theorem dX9_row_10 : decode cX9_row 10 = .ok (.putfield 147, 3) := by decide +kernel
theorem dX9_row_13 : decode cX9_row 13 = .ok (.aload_n 0, 1) := by decide +kernel
theorem dX9_row_14 : decode cX9_row 14 = .ok (.iload_n 1, 1) := by decide +kernel
theorem dX9_row_15 : decode cX9_row 15 = .ok (.invokevirtual 79, 3) := by decide +kernel
theorem dX9_row_18 : decode cX9_row 18 = .ok (.ireturn, 1) := by decide +kernel
theorem dX9_fillRow_0 : decode cX9_fillRow 0 = .ok (.aload_n 0, 1) := by decide +kernel
theorem dX9_fillRow_1 : decode cX9_fillRow 1 = .ok (.getfield 35, 3) := by decide +kernel
theorem dX9_fillRow_4 : decode cX9_fillRow 4 = .ok (.getfield 147, 3) := by decide +kernel
theorem dX9_fillRow_7 : decode cX9_fillRow 7 = .ok (.ifCond .le 25, 3) := by decide +kernel
theorem dX9_fillRow_10 : decode cX9_fillRow 10 = .ok (.aload_n 0, 1) := by decide +kernel
theorem dX9_fillRow_11 : decode cX9_fillRow 11 = .ok (.getfield 12, 3) := by decide +kernel
theorem dX9_fillRow_14 : decode cX9_fillRow 14 = .ok (.getfield 86, 3) := by decide +kernel
theorem dX9_fillRow_17 : decode cX9_fillRow 17 = .ok (.aload_n 0, 1) := by decide +kernel
theorem dX9_fillRow_18 : decode cX9_fillRow 18 = .ok (.getfield 35, 3) := by decide +kernel
theorem dX9_fillRow_21 : decode cX9_fillRow 21 = .ok (.getfield 159, 3) := by decide +kernel
theorem dX9_fillRow_24 : decode cX9_fillRow 24 = .ok (.iconst 0, 1) := by decide +kernel
theorem dX9_fillRow_25 : decode cX9_fillRow 25 = .ok (.iaload, 1) := by decide +kernel
theorem dX9_fillRow_26 : decode cX9_fillRow 26 = .ok (.invokevirtual 92, 3) := by decide +kernel
theorem dX9_fillRow_29 : decode cX9_fillRow 29 = .ok (.ifCond .ne 6, 3) := by decide +kernel
theorem dX9_fillRow_32 : decode cX9_fillRow 32 = .ok (.bipush (-6), 2) := by decide +kernel
theorem dX9_fillRow_34 : decode cX9_fillRow 34 = .ok (.ireturn, 1) := by decide +kernel
theorem dX9_fillRow_35 : decode cX9_fillRow 35 = .ok (.iconst 0, 1) := by decide +kernel
theorem dX9_fillRow_36 : decode cX9_fillRow 36 = .ok (.istore_n 1, 1) := by decide +kernel
theorem dX9_fillRow_37 : decode cX9_fillRow 37 = .ok (.iconst 1, 1) := by decide +kernel
theorem dX9_fillRow_38 : decode cX9_fillRow 38 = .ok (.istore_n 2, 1) := by decide +kernel
theorem dX9_fillRow_39 : decode cX9_fillRow 39 = .ok (.iload_n 2, 1) := by decide +kernel
theorem dX9_fillRow_40 : decode cX9_fillRow 40 = .ok (.aload_n 0, 1) := by decide +kernel
theorem dX9_fillRow_41 : decode cX9_fillRow 41 = .ok (.getfield 35, 3) := by decide +kernel
theorem dX9_fillRow_44 : decode cX9_fillRow 44 = .ok (.getfield 147, 3) := by decide +kernel
theorem dX9_fillRow_47 : decode cX9_fillRow 47 = .ok (.if_icmp .ge 46, 3) := by decide +kernel
theorem dX9_fillRow_50 : decode cX9_fillRow 50 = .ok (.aload_n 0, 1) := by decide +kernel
theorem dX9_fillRow_51 : decode cX9_fillRow 51 = .ok (.getfield 12, 3) := by decide +kernel
theorem dX9_fillRow_54 : decode cX9_fillRow 54 = .ok (.getfield 86, 3) := by decide +kernel
theorem dX9_fillRow_57 : decode cX9_fillRow 57 = .ok (.aload_n 0, 1) := by decide +kernel
theorem dX9_fillRow_58 : decode cX9_fillRow 58 = .ok (.getfield 35, 3) := by decide +kernel
theorem dX9_fillRow_61 : decode cX9_fillRow 61 = .ok (.getfield 159, 3) := by decide +kernel
theorem dX9_fillRow_64 : decode cX9_fillRow 64 = .ok (.iconst 0, 1) := by decide +kernel
theorem dX9_fillRow_65 : decode cX9_fillRow 65 = .ok (.iaload, 1) := by decide +kernel
theorem dX9_fillRow_66 : decode cX9_fillRow 66 = .ok (.iload_n 2, 1) := by decide +kernel
theorem dX9_fillRow_67 : decode cX9_fillRow 67 = .ok (.iconst 1, 1) := by decide +kernel
theorem dX9_fillRow_68 : decode cX9_fillRow 68 = .ok (.isub, 1) := by decide +kernel
theorem dX9_fillRow_69 : decode cX9_fillRow 69 = .ok (.aload_n 0, 1) := by decide +kernel
theorem dX9_fillRow_70 : decode cX9_fillRow 70 = .ok (.getfield 35, 3) := by decide +kernel
theorem dX9_fillRow_73 : decode cX9_fillRow 73 = .ok (.getfield 159, 3) := by decide +kernel
theorem dX9_fillRow_76 : decode cX9_fillRow 76 = .ok (.iload_n 2, 1) := by decide +kernel
theorem dX9_fillRow_77 : decode cX9_fillRow 77 = .ok (.iaload, 1) := by decide +kernel
theorem dX9_fillRow_78 : decode cX9_fillRow 78 = .ok (.invokevirtual 122, 3) := by decide +kernel
theorem dX9_fillRow_81 : decode cX9_fillRow 81 = .ok (.ifCond .ne 6, 3) := by decide +kernel
theorem dX9_fillRow_84 : decode cX9_fillRow 84 = .ok (.iinc 1 1, 3) := by decide +kernel
theorem dX9_fillRow_87 : decode cX9_fillRow 87 = .ok (.iinc 2 1, 3) := by decide +kernel
theorem dX9_fillRow_90 : decode cX9_fillRow 90 = .ok (.goto (-51), 3) := by decide +kernel
theorem dX9_fillRow_93 : decode cX9_fillRow 93 = .ok (.aload_n 0, 1) := by decide +kernel
theorem dX9_fillRow_94 : decode cX9_fillRow 94 = .ok (.aload_n 0, 1) := by decide +kernel
theorem dX9_fillRow_95 : decode cX9_fillRow 95 = .ok (.getfield 35, 3) := by decide +kernel
theorem dX9_fillRow_98 : decode cX9_fillRow 98 = .ok (.getfield 147, 3) := by decide +kernel
theorem dX9_fillRow_101 : decode cX9_fillRow 101 = .ok (.iconst 1, 1) := by decide +kernel
theorem dX9_fillRow_102 : decode cX9_fillRow 102 = .ok (.isub, 1) := by decide +kernel
theorem dX9_fillRow_103 : decode cX9_fillRow 103 = .ok (.iload_n 1, 1) := by decide +kernel
theorem dX9_fillRow_104 : decode cX9_fillRow 104 = .ok (.isub, 1) := by decide +kernel
theorem dX9_fillRow_105 : decode cX9_fillRow 105 = .ok (.putfield 162, 3) := by decide +kernel
theorem dX9_fillRow_108 : decode cX9_fillRow 108 = .ok (.iload_n 1, 1) := by decide +kernel
theorem dX9_fillRow_109 : decode cX9_fillRow 109 = .ok (.ireturn, 1) := by decide +kernel
theorem dX9_spilt_0 : decode cX9_spilt 0 = .ok (.aload_n 0, 1) := by decide +kernel
theorem dX9_spilt_1 : decode cX9_spilt 1 = .ok (.getfield 162, 3) := by decide +kernel
theorem dX9_spilt_4 : decode cX9_spilt 4 = .ok (.ireturn, 1) := by decide +kernel
theorem dX9_evening_0 : decode cX9_evening 0 = .ok (.aload_n 0, 1) := by decide +kernel
theorem dX9_evening_1 : decode cX9_evening 1 = .ok (.getfield 27, 3) := by decide +kernel
theorem dX9_evening_4 : decode cX9_evening 4 = .ok (.invokevirtual 165, 3) := by decide +kernel
theorem dX9_evening_7 : decode cX9_evening 7 = .ok (.istore_n 1, 1) := by decide +kernel
theorem dX9_evening_8 : decode cX9_evening 8 = .ok (.aload_n 0, 1) := by decide +kernel
theorem dX9_evening_9 : decode cX9_evening 9 = .ok (.iload_n 1, 1) := by decide +kernel
theorem dX9_evening_10 : decode cX9_evening 10 = .ok (.ifCond .eq 7, 3) := by decide +kernel
theorem dX9_evening_13 : decode cX9_evening 13 = .ok (.iconst (-1), 1) := by decide +kernel
theorem dX9_evening_14 : decode cX9_evening 14 = .ok (.goto 10, 3) := by decide +kernel
theorem dX9_evening_17 : decode cX9_evening 17 = .ok (.aload_n 0, 1) := by decide +kernel
theorem dX9_evening_18 : decode cX9_evening 18 = .ok (.getfield 35, 3) := by decide +kernel
theorem dX9_evening_21 : decode cX9_evening 21 = .ok (.invokevirtual 169, 3) := by decide +kernel
theorem dX9_evening_24 : decode cX9_evening 24 = .ok (.putfield 68, 3) := by decide +kernel
theorem dX9_evening_27 : decode cX9_evening 27 = .ok (.aload_n 0, 1) := by decide +kernel
theorem dX9_evening_28 : decode cX9_evening 28 = .ok (.getfield 35, 3) := by decide +kernel
theorem dX9_evening_31 : decode cX9_evening 31 = .ok (.iconst 0, 1) := by decide +kernel
theorem dX9_evening_32 : decode cX9_evening 32 = .ok (.putfield 147, 3) := by decide +kernel
theorem dX9_evening_35 : decode cX9_evening 35 = .ok (.aload_n 0, 1) := by decide +kernel
theorem dX9_evening_36 : decode cX9_evening 36 = .ok (.iconst (-1), 1) := by decide +kernel
theorem dX9_evening_37 : decode cX9_evening 37 = .ok (.putfield 72, 3) := by decide +kernel
theorem dX9_evening_40 : decode cX9_evening 40 = .ok (.iload_n 1, 1) := by decide +kernel
theorem dX9_evening_41 : decode cX9_evening 41 = .ok (.ifCond .ne 10, 3) := by decide +kernel
theorem dX9_evening_44 : decode cX9_evening 44 = .ok (.aload_n 0, 1) := by decide +kernel
theorem dX9_evening_45 : decode cX9_evening 45 = .ok (.bipush (-6), 2) := by decide +kernel
theorem dX9_evening_47 : decode cX9_evening 47 = .ok (.invokevirtual 79, 3) := by decide +kernel
theorem dX9_evening_50 : decode cX9_evening 50 = .ok (.ireturn, 1) := by decide +kernel
theorem dX9_evening_51 : decode cX9_evening 51 = .ok (.aload_n 0, 1) := by decide +kernel
theorem dX9_evening_52 : decode cX9_evening 52 = .ok (.getfield 39, 3) := by decide +kernel
theorem dX9_evening_55 : decode cX9_evening 55 = .ok (.aload_n 0, 1) := by decide +kernel
theorem dX9_evening_56 : decode cX9_evening 56 = .ok (.getfield 27, 3) := by decide +kernel
theorem dX9_evening_59 : decode cX9_evening 59 = .ok (.getfield 172, 3) := by decide +kernel
theorem dX9_evening_62 : decode cX9_evening 62 = .ok (.aload_n 0, 1) := by decide +kernel
theorem dX9_evening_63 : decode cX9_evening 63 = .ok (.getfield 12, 3) := by decide +kernel
theorem dX9_evening_66 : decode cX9_evening 66 = .ok (.getfield 86, 3) := by decide +kernel
theorem dX9_evening_69 : decode cX9_evening 69 = .ok (.invokevirtual 176, 3) := by decide +kernel
theorem dX9_evening_72 : decode cX9_evening 72 = .ok (.istore_n 2, 1) := by decide +kernel
theorem dX9_evening_73 : decode cX9_evening 73 = .ok (.iload_n 2, 1) := by decide +kernel
theorem dX9_evening_74 : decode cX9_evening 74 = .ok (.ifCond .ge 14, 3) := by decide +kernel
theorem dX9_evening_77 : decode cX9_evening 77 = .ok (.aload_n 0, 1) := by decide +kernel
theorem dX9_evening_78 : decode cX9_evening 78 = .ok (.aload_n 0, 1) := by decide +kernel
theorem dX9_evening_79 : decode cX9_evening 79 = .ok (.getfield 39, 3) := by decide +kernel
theorem dX9_evening_82 : decode cX9_evening 82 = .ok (.getfield 180, 3) := by decide +kernel
theorem dX9_evening_85 : decode cX9_evening 85 = .ok (.putfield 72, 3) := by decide +kernel
theorem dX9_evening_88 : decode cX9_evening 88 = .ok (.aload_n 0, 1) := by decide +kernel
theorem dX9_evening_89 : decode cX9_evening 89 = .ok (.iload_n 2, 1) := by decide +kernel
theorem dX9_evening_90 : decode cX9_evening 90 = .ok (.invokevirtual 79, 3) := by decide +kernel
theorem dX9_evening_93 : decode cX9_evening 93 = .ok (.ireturn, 1) := by decide +kernel
theorem dX9_fault_0 : decode cX9_fault 0 = .ok (.aload_n 0, 1) := by decide +kernel
theorem dX9_fault_1 : decode cX9_fault 1 = .ok (.getfield 68, 3) := by decide +kernel
theorem dX9_fault_4 : decode cX9_fault 4 = .ok (.ireturn, 1) := by decide +kernel
theorem dX9_stopped_0 : decode cX9_stopped 0 = .ok (.aload_n 0, 1) := by decide +kernel
theorem dX9_stopped_1 : decode cX9_stopped 1 = .ok (.getfield 72, 3) := by decide +kernel
theorem dX9_stopped_4 : decode cX9_stopped 4 = .ok (.ireturn, 1) := by decide +kernel
theorem dX9_alike_0 : decode cX9_alike 0 = .ok (.aload_n 0, 1) := by decide +kernel
theorem dX9_alike_1 : decode cX9_alike 1 = .ok (.getfield 12, 3) := by decide +kernel
theorem dX9_alike_4 : decode cX9_alike 4 = .ok (.getfield 86, 3) := by decide +kernel
theorem dX9_alike_7 : decode cX9_alike 7 = .ok (.iload_n 1, 1) := by decide +kernel
theorem dX9_alike_8 : decode cX9_alike 8 = .ok (.invokevirtual 92, 3) := by decide +kernel
theorem dX9_alike_11 : decode cX9_alike 11 = .ok (.ifCond .eq 24, 3) := by decide +kernel
theorem dX9_alike_14 : decode cX9_alike 14 = .ok (.aload_n 0, 1) := by decide +kernel
theorem dX9_alike_15 : decode cX9_alike 15 = .ok (.getfield 12, 3) := by decide +kernel
theorem dX9_alike_18 : decode cX9_alike 18 = .ok (.getfield 86, 3) := by decide +kernel
theorem dX9_alike_21 : decode cX9_alike 21 = .ok (.iload_n 2, 1) := by decide +kernel
theorem dX9_alike_22 : decode cX9_alike 22 = .ok (.invokevirtual 92, 3) := by decide +kernel
theorem dX9_alike_25 : decode cX9_alike 25 = .ok (.ifCond .eq 10, 3) := by decide +kernel
theorem dX9_alike_28 : decode cX9_alike 28 = .ok (.iload_n 3, 1) := by decide +kernel
theorem dX9_alike_29 : decode cX9_alike 29 = .ok (.invokestatic 101, 3) := by decide +kernel
theorem dX9_alike_32 : decode cX9_alike 32 = .ok (.ifCond .ne 5, 3) := by decide +kernel
theorem dX9_alike_35 : decode cX9_alike 35 = .ok (.iconst (-1), 1) := by decide +kernel
theorem dX9_alike_36 : decode cX9_alike 36 = .ok (.ireturn, 1) := by decide +kernel
theorem dX9_alike_37 : decode cX9_alike 37 = .ok (.aload_n 0, 1) := by decide +kernel
theorem dX9_alike_38 : decode cX9_alike 38 = .ok (.getfield 12, 3) := by decide +kernel
theorem dX9_alike_41 : decode cX9_alike 41 = .ok (.getfield 86, 3) := by decide +kernel
theorem dX9_alike_44 : decode cX9_alike 44 = .ok (.iload_n 1, 1) := by decide +kernel
theorem dX9_alike_45 : decode cX9_alike 45 = .ok (.iload_n 2, 1) := by decide +kernel
theorem dX9_alike_46 : decode cX9_alike 46 = .ok (.iload_n 3, 1) := by decide +kernel
theorem dX9_alike_47 : decode cX9_alike 47 = .ok (.invokevirtual 183, 3) := by decide +kernel
theorem dX9_alike_50 : decode cX9_alike 50 = .ok (.ifCond .eq 7, 3) := by decide +kernel
theorem dX9_alike_53 : decode cX9_alike 53 = .ok (.iconst 1, 1) := by decide +kernel
theorem dX9_alike_54 : decode cX9_alike 54 = .ok (.goto 4, 3) := by decide +kernel
theorem dX9_alike_57 : decode cX9_alike 57 = .ok (.iconst 0, 1) := by decide +kernel
theorem dX9_alike_58 : decode cX9_alike 58 = .ok (.ireturn, 1) := by decide +kernel
theorem dX9_both_0 : decode cX9_both 0 = .ok (.iload_n 1, 1) := by decide +kernel
theorem dX9_both_1 : decode cX9_both 1 = .ok (.iload_n 2, 1) := by decide +kernel
theorem dX9_both_2 : decode cX9_both 2 = .ok (.invokestatic 187, 3) := by decide +kernel
theorem dX9_both_5 : decode cX9_both 5 = .ok (.ifCond .eq 13, 3) := by decide +kernel
theorem dX9_both_8 : decode cX9_both 8 = .ok (.iload_n 3, 1) := by decide +kernel
theorem dX9_both_9 : decode cX9_both 9 = .ok (.iconst 0, 1) := by decide +kernel
theorem dX9_both_10 : decode cX9_both 10 = .ok (.bipush 6, 2) := by decide +kernel
theorem dX9_both_12 : decode cX9_both 12 = .ok (.invokestatic 191, 3) := by decide +kernel
theorem dX9_both_15 : decode cX9_both 15 = .ok (.ifCond .ne 7, 3) := by decide +kernel
theorem dX9_both_18 : decode cX9_both 18 = .ok (.ldc2_w 104, 3) := by decide +kernel
theorem dX9_both_21 : decode cX9_both 21 = .ok (.lreturn, 1) := by decide +kernel
theorem dX9_both_22 : decode cX9_both 22 = .ok (.iload_n 1, 1) := by decide +kernel
theorem dX9_both_23 : decode cX9_both 23 = .ok (.iload_n 2, 1) := by decide +kernel
theorem dX9_both_24 : decode cX9_both 24 = .ok (.isub, 1) := by decide +kernel
theorem dX9_both_25 : decode cX9_both 25 = .ok (.iload_n 1, 1) := by decide +kernel
theorem dX9_both_26 : decode cX9_both 26 = .ok (.iload_n 2, 1) := by decide +kernel
theorem dX9_both_27 : decode cX9_both 27 = .ok (.iadd, 1) := by decide +kernel
theorem dX9_both_28 : decode cX9_both 28 = .ok (.iload_n 3, 1) := by decide +kernel
theorem dX9_both_29 : decode cX9_both 29 = .ok (.iload 4, 2) := by decide +kernel
theorem dX9_both_31 : decode cX9_both 31 = .ok (.invokestatic 194, 3) := by decide +kernel
theorem dX9_both_34 : decode cX9_both 34 = .ok (.lreturn, 1) := by decide +kernel
theorem dX9_rounds_0 : decode cX9_rounds 0 = .ok (.iload_n 1, 1) := by decide +kernel
theorem dX9_rounds_1 : decode cX9_rounds 1 = .ok (.iload_n 2, 1) := by decide +kernel
theorem dX9_rounds_2 : decode cX9_rounds 2 = .ok (.invokestatic 187, 3) := by decide +kernel
theorem dX9_rounds_5 : decode cX9_rounds 5 = .ok (.ifCond .eq 13, 3) := by decide +kernel
theorem dX9_rounds_8 : decode cX9_rounds 8 = .ok (.iload_n 3, 1) := by decide +kernel
theorem dX9_rounds_9 : decode cX9_rounds 9 = .ok (.iconst 0, 1) := by decide +kernel
theorem dX9_rounds_10 : decode cX9_rounds 10 = .ok (.bipush 100, 2) := by decide +kernel
theorem dX9_rounds_12 : decode cX9_rounds 12 = .ok (.invokestatic 191, 3) := by decide +kernel
theorem dX9_rounds_15 : decode cX9_rounds 15 = .ok (.ifCond .ne 5, 3) := by decide +kernel
theorem dX9_rounds_18 : decode cX9_rounds 18 = .ok (.iconst (-1), 1) := by decide +kernel
theorem dX9_rounds_19 : decode cX9_rounds 19 = .ok (.ireturn, 1) := by decide +kernel
theorem dX9_rounds_20 : decode cX9_rounds 20 = .ok (.iconst 0, 1) := by decide +kernel
theorem dX9_rounds_21 : decode cX9_rounds 21 = .ok (.istore 4, 2) := by decide +kernel
theorem dX9_rounds_23 : decode cX9_rounds 23 = .ok (.iload 4, 2) := by decide +kernel
theorem dX9_rounds_25 : decode cX9_rounds 25 = .ok (.bipush 6, 2) := by decide +kernel
theorem dX9_rounds_27 : decode cX9_rounds 27 = .ok (.if_icmp .gt 41, 3) := by decide +kernel
theorem dX9_rounds_30 : decode cX9_rounds 30 = .ok (.ldc2_w 198, 3) := by decide +kernel
theorem dX9_rounds_33 : decode cX9_rounds 33 = .ok (.iload_n 1, 1) := by decide +kernel
theorem dX9_rounds_34 : decode cX9_rounds 34 = .ok (.iload_n 2, 1) := by decide +kernel
theorem dX9_rounds_35 : decode cX9_rounds 35 = .ok (.isub, 1) := by decide +kernel
theorem dX9_rounds_36 : decode cX9_rounds 36 = .ok (.i2l, 1) := by decide +kernel
theorem dX9_rounds_37 : decode cX9_rounds 37 = .ok (.iload 4, 2) := by decide +kernel
theorem dX9_rounds_39 : decode cX9_rounds 39 = .ok (.invokestatic 200, 3) := by decide +kernel
theorem dX9_rounds_42 : decode cX9_rounds 42 = .ok (.lmul, 1) := by decide +kernel
theorem dX9_rounds_43 : decode cX9_rounds 43 = .ok (.iload_n 3, 1) := by decide +kernel
theorem dX9_rounds_44 : decode cX9_rounds 44 = .ok (.i2l, 1) := by decide +kernel
theorem dX9_rounds_45 : decode cX9_rounds 45 = .ok (.iload_n 1, 1) := by decide +kernel
theorem dX9_rounds_46 : decode cX9_rounds 46 = .ok (.iload_n 2, 1) := by decide +kernel
theorem dX9_rounds_47 : decode cX9_rounds 47 = .ok (.iadd, 1) := by decide +kernel
theorem dX9_rounds_48 : decode cX9_rounds 48 = .ok (.i2l, 1) := by decide +kernel
theorem dX9_rounds_49 : decode cX9_rounds 49 = .ok (.iload 4, 2) := by decide +kernel
theorem dX9_rounds_51 : decode cX9_rounds 51 = .ok (.invokestatic 200, 3) := by decide +kernel
theorem dX9_rounds_54 : decode cX9_rounds 54 = .ok (.lmul, 1) := by decide +kernel
theorem dX9_rounds_55 : decode cX9_rounds 55 = .ok (.lcmp, 1) := by decide +kernel
theorem dX9_rounds_56 : decode cX9_rounds 56 = .ok (.ifCond .gt 6, 3) := by decide +kernel
theorem dX9_rounds_59 : decode cX9_rounds 59 = .ok (.iload 4, 2) := by decide +kernel
theorem dX9_rounds_61 : decode cX9_rounds 61 = .ok (.ireturn, 1) := by decide +kernel
theorem dX9_rounds_62 : decode cX9_rounds 62 = .ok (.iinc 4 1, 3) := by decide +kernel
theorem dX9_rounds_65 : decode cX9_rounds 65 = .ok (.goto (-42), 3) := by decide +kernel
theorem dX9_rounds_68 : decode cX9_rounds 68 = .ok (.iconst (-1), 1) := by decide +kernel
theorem dX9_rounds_69 : decode cX9_rounds 69 = .ok (.ireturn, 1) := by decide +kernel
theorem dX9_isBoth_0 : decode cX9_isBoth 0 = .ok (.iload_n 0, 1) := by decide +kernel
theorem dX9_isBoth_1 : decode cX9_isBoth 1 = .ok (.invokestatic 82, 3) := by decide +kernel
theorem dX9_isBoth_4 : decode cX9_isBoth 4 = .ok (.ifCond .eq 18, 3) := by decide +kernel
theorem dX9_isBoth_7 : decode cX9_isBoth 7 = .ok (.iload_n 1, 1) := by decide +kernel
theorem dX9_isBoth_8 : decode cX9_isBoth 8 = .ok (.iconst 1, 1) := by decide +kernel
theorem dX9_isBoth_9 : decode cX9_isBoth 9 = .ok (.iload_n 0, 1) := by decide +kernel
theorem dX9_isBoth_10 : decode cX9_isBoth 10 = .ok (.iconst 1, 1) := by decide +kernel
theorem dX9_isBoth_11 : decode cX9_isBoth 11 = .ok (.isub, 1) := by decide +kernel
theorem dX9_isBoth_12 : decode cX9_isBoth 12 = .ok (.invokestatic 191, 3) := by decide +kernel
theorem dX9_isBoth_15 : decode cX9_isBoth 15 = .ok (.ifCond .eq 7, 3) := by decide +kernel
theorem dX9_isBoth_18 : decode cX9_isBoth 18 = .ok (.iconst 1, 1) := by decide +kernel
theorem dX9_isBoth_19 : decode cX9_isBoth 19 = .ok (.goto 4, 3) := by decide +kernel
theorem dX9_isBoth_22 : decode cX9_isBoth 22 = .ok (.iconst 0, 1) := by decide +kernel
theorem dX9_isBoth_23 : decode cX9_isBoth 23 = .ok (.ireturn, 1) := by decide +kernel
theorem dX9_size_0 : decode cX9_size 0 = .ok (.aload_n 0, 1) := by decide +kernel
theorem dX9_size_1 : decode cX9_size 1 = .ok (.aload_n 0, 1) := by decide +kernel
theorem dX9_size_2 : decode cX9_size 2 = .ok (.iload_n 1, 1) := by decide +kernel
theorem dX9_size_3 : decode cX9_size 3 = .ok (.invokevirtual 204, 3) := by decide +kernel
theorem dX9_size_6 : decode cX9_size 6 = .ok (.invokevirtual 79, 3) := by decide +kernel
theorem dX9_size_9 : decode cX9_size 9 = .ok (.ireturn, 1) := by decide +kernel
theorem dX9_addSpoon_0 : decode cX9_addSpoon 0 = .ok (.iload_n 1, 1) := by decide +kernel
theorem dX9_addSpoon_1 : decode cX9_addSpoon 1 = .ok (.invokestatic 82, 3) := by decide +kernel
theorem dX9_addSpoon_4 : decode cX9_addSpoon 4 = .ok (.ifCond .ne 5, 3) := by decide +kernel
theorem dX9_addSpoon_7 : decode cX9_addSpoon 7 = .ok (.iconst (-1), 1) := by decide +kernel
theorem dX9_addSpoon_8 : decode cX9_addSpoon 8 = .ok (.ireturn, 1) := by decide +kernel
theorem dX9_addSpoon_9 : decode cX9_addSpoon 9 = .ok (.aload_n 0, 1) := by decide +kernel
theorem dX9_addSpoon_10 : decode cX9_addSpoon 10 = .ok (.getfield 12, 3) := by decide +kernel
theorem dX9_addSpoon_13 : decode cX9_addSpoon 13 = .ok (.getfield 207, 3) := by decide +kernel
theorem dX9_addSpoon_16 : decode cX9_addSpoon 16 = .ok (.iconst 3, 1) := by decide +kernel
theorem dX9_addSpoon_17 : decode cX9_addSpoon 17 = .ok (.if_icmp .lt 6, 3) := by decide +kernel
theorem dX9_addSpoon_20 : decode cX9_addSpoon 20 = .ok (.bipush (-5), 2) := by decide +kernel
theorem dX9_addSpoon_22 : decode cX9_addSpoon 22 = .ok (.ireturn, 1) := by decide +kernel
theorem dX9_addSpoon_23 : decode cX9_addSpoon 23 = .ok (.aload_n 0, 1) := by decide +kernel
theorem dX9_addSpoon_24 : decode cX9_addSpoon 24 = .ok (.getfield 12, 3) := by decide +kernel
theorem dX9_addSpoon_27 : decode cX9_addSpoon 27 = .ok (.getfield 210, 3) := by decide +kernel
theorem dX9_addSpoon_30 : decode cX9_addSpoon 30 = .ok (.aload_n 0, 1) := by decide +kernel
theorem dX9_addSpoon_31 : decode cX9_addSpoon 31 = .ok (.getfield 12, 3) := by decide +kernel
theorem dX9_addSpoon_34 : decode cX9_addSpoon 34 = .ok (.getfield 207, 3) := by decide +kernel
theorem dX9_addSpoon_37 : decode cX9_addSpoon 37 = .ok (.iload_n 1, 1) := by decide +kernel
theorem dX9_addSpoon_38 : decode cX9_addSpoon 38 = .ok (.iastore, 1) := by decide +kernel
theorem dX9_addSpoon_39 : decode cX9_addSpoon 39 = .ok (.aload_n 0, 1) := by decide +kernel
theorem dX9_addSpoon_40 : decode cX9_addSpoon 40 = .ok (.getfield 12, 3) := by decide +kernel
theorem dX9_addSpoon_43 : decode cX9_addSpoon 43 = .ok (.dup, 1) := by decide +kernel
theorem dX9_addSpoon_44 : decode cX9_addSpoon 44 = .ok (.getfield 207, 3) := by decide +kernel
theorem dX9_addSpoon_47 : decode cX9_addSpoon 47 = .ok (.iconst 1, 1) := by decide +kernel
theorem dX9_addSpoon_48 : decode cX9_addSpoon 48 = .ok (.iadd, 1) := by decide +kernel
theorem dX9_addSpoon_49 : decode cX9_addSpoon 49 = .ok (.putfield 207, 3) := by decide +kernel
theorem dX9_addSpoon_52 : decode cX9_addSpoon 52 = .ok (.aload_n 0, 1) := by decide +kernel
theorem dX9_addSpoon_53 : decode cX9_addSpoon 53 = .ok (.getfield 12, 3) := by decide +kernel
theorem dX9_addSpoon_56 : decode cX9_addSpoon 56 = .ok (.getfield 207, 3) := by decide +kernel
theorem dX9_addSpoon_59 : decode cX9_addSpoon 59 = .ok (.iconst 1, 1) := by decide +kernel
theorem dX9_addSpoon_60 : decode cX9_addSpoon 60 = .ok (.isub, 1) := by decide +kernel
theorem dX9_addSpoon_61 : decode cX9_addSpoon 61 = .ok (.ireturn, 1) := by decide +kernel
theorem dX9_wash_0 : decode cX9_wash 0 = .ok (.aload_n 0, 1) := by decide +kernel
theorem dX9_wash_1 : decode cX9_wash 1 = .ok (.getfield 12, 3) := by decide +kernel
theorem dX9_wash_4 : decode cX9_wash 4 = .ok (.getfield 207, 3) := by decide +kernel
theorem dX9_wash_7 : decode cX9_wash 7 = .ok (.aload_n 0, 1) := by decide +kernel
theorem dX9_wash_8 : decode cX9_wash 8 = .ok (.getfield 12, 3) := by decide +kernel
theorem dX9_wash_11 : decode cX9_wash 11 = .ok (.getfield 213, 3) := by decide +kernel
theorem dX9_wash_14 : decode cX9_wash 14 = .ok (.iadd, 1) := by decide +kernel
theorem dX9_wash_15 : decode cX9_wash 15 = .ok (.istore_n 1, 1) := by decide +kernel
theorem dX9_wash_16 : decode cX9_wash 16 = .ok (.aload_n 0, 1) := by decide +kernel
theorem dX9_wash_17 : decode cX9_wash 17 = .ok (.getfield 12, 3) := by decide +kernel
theorem dX9_wash_20 : decode cX9_wash 20 = .ok (.iconst 0, 1) := by decide +kernel
theorem dX9_wash_21 : decode cX9_wash 21 = .ok (.putfield 207, 3) := by decide +kernel
theorem dX9_wash_24 : decode cX9_wash 24 = .ok (.aload_n 0, 1) := by decide +kernel
theorem dX9_wash_25 : decode cX9_wash 25 = .ok (.getfield 12, 3) := by decide +kernel
theorem dX9_wash_28 : decode cX9_wash 28 = .ok (.iconst 0, 1) := by decide +kernel
theorem dX9_wash_29 : decode cX9_wash 29 = .ok (.putfield 213, 3) := by decide +kernel
theorem dX9_wash_32 : decode cX9_wash 32 = .ok (.iload_n 1, 1) := by decide +kernel
theorem dX9_wash_33 : decode cX9_wash 33 = .ok (.ireturn, 1) := by decide +kernel
theorem dX9_reach_0 : decode cX9_reach 0 = .ok (.aload_n 0, 1) := by decide +kernel
theorem dX9_reach_1 : decode cX9_reach 1 = .ok (.getfield 12, 3) := by decide +kernel
theorem dX9_reach_4 : decode cX9_reach 4 = .ok (.getfield 86, 3) := by decide +kernel
theorem dX9_reach_7 : decode cX9_reach 7 = .ok (.iload_n 1, 1) := by decide +kernel
theorem dX9_reach_8 : decode cX9_reach 8 = .ok (.invokevirtual 92, 3) := by decide +kernel
theorem dX9_reach_11 : decode cX9_reach 11 = .ok (.ifCond .eq 10, 3) := by decide +kernel
theorem dX9_reach_14 : decode cX9_reach 14 = .ok (.iload_n 2, 1) := by decide +kernel
theorem dX9_reach_15 : decode cX9_reach 15 = .ok (.invokestatic 101, 3) := by decide +kernel
theorem dX9_reach_18 : decode cX9_reach 18 = .ok (.ifCond .ne 5, 3) := by decide +kernel
theorem dX9_reach_21 : decode cX9_reach 21 = .ok (.iconst (-1), 1) := by decide +kernel
theorem dX9_reach_22 : decode cX9_reach 22 = .ok (.ireturn, 1) := by decide +kernel
theorem dX9_reach_23 : decode cX9_reach 23 = .ok (.iload_n 3, 1) := by decide +kernel
theorem dX9_reach_24 : decode cX9_reach 24 = .ok (.iconst 0, 1) := by decide +kernel
theorem dX9_reach_25 : decode cX9_reach 25 = .ok (.bipush 100, 2) := by decide +kernel
theorem dX9_reach_27 : decode cX9_reach 27 = .ok (.invokestatic 191, 3) := by decide +kernel
theorem dX9_reach_30 : decode cX9_reach 30 = .ok (.ifCond .eq 14, 3) := by decide +kernel
theorem dX9_reach_33 : decode cX9_reach 33 = .ok (.iload 4, 2) := by decide +kernel
theorem dX9_reach_35 : decode cX9_reach 35 = .ok (.iconst 0, 1) := by decide +kernel
theorem dX9_reach_36 : decode cX9_reach 36 = .ok (.bipush 100, 2) := by decide +kernel
theorem dX9_reach_38 : decode cX9_reach 38 = .ok (.invokestatic 191, 3) := by decide +kernel
theorem dX9_reach_41 : decode cX9_reach 41 = .ok (.ifCond .ne 5, 3) := by decide +kernel
theorem dX9_reach_44 : decode cX9_reach 44 = .ok (.iconst (-1), 1) := by decide +kernel
theorem dX9_reach_45 : decode cX9_reach 45 = .ok (.ireturn, 1) := by decide +kernel
theorem dX9_reach_46 : decode cX9_reach 46 = .ok (.aload_n 0, 1) := by decide +kernel
theorem dX9_reach_47 : decode cX9_reach 47 = .ok (.getfield 46, 3) := by decide +kernel
theorem dX9_reach_50 : decode cX9_reach 50 = .ok (.aload_n 0, 1) := by decide +kernel
theorem dX9_reach_51 : decode cX9_reach 51 = .ok (.getfield 12, 3) := by decide +kernel
theorem dX9_reach_54 : decode cX9_reach 54 = .ok (.iload_n 1, 1) := by decide +kernel
theorem dX9_reach_55 : decode cX9_reach 55 = .ok (.iload_n 2, 1) := by decide +kernel
theorem dX9_reach_56 : decode cX9_reach 56 = .ok (.iload_n 3, 1) := by decide +kernel
theorem dX9_reach_57 : decode cX9_reach 57 = .ok (.iload 4, 2) := by decide +kernel
theorem dX9_reach_59 : decode cX9_reach 59 = .ok (.invokevirtual 216, 3) := by decide +kernel
theorem dX9_reach_62 : decode cX9_reach 62 = .ok (.istore 7, 2) := by decide +kernel
theorem dX9_reach_64 : decode cX9_reach 64 = .ok (.iload 5, 2) := by decide +kernel
theorem dX9_reach_66 : decode cX9_reach 66 = .ok (.iconst (-1), 1) := by decide +kernel
theorem dX9_reach_67 : decode cX9_reach 67 = .ok (.if_icmp .ne 8, 3) := by decide +kernel
theorem dX9_reach_70 : decode cX9_reach 70 = .ok (.iload 7, 2) := by decide +kernel
theorem dX9_reach_72 : decode cX9_reach 72 = .ok (.goto 16, 3) := by decide +kernel
theorem dX9_reach_75 : decode cX9_reach 75 = .ok (.aload_n 0, 1) := by decide +kernel
theorem dX9_reach_76 : decode cX9_reach 76 = .ok (.getfield 46, 3) := by decide +kernel
theorem dX9_reach_79 : decode cX9_reach 79 = .ok (.iload 7, 2) := by decide +kernel
theorem dX9_reach_81 : decode cX9_reach 81 = .ok (.iload 5, 2) := by decide +kernel
theorem dX9_reach_83 : decode cX9_reach 83 = .ok (.iload 6, 2) := by decide +kernel
theorem dX9_reach_85 : decode cX9_reach 85 = .ok (.invokevirtual 220, 3) := by decide +kernel
theorem dX9_reach_88 : decode cX9_reach 88 = .ok (.ireturn, 1) := by decide +kernel
theorem dX9_tasting_0 : decode cX9_tasting 0 = .ok (.aload_n 0, 1) := by decide +kernel
theorem dX9_tasting_1 : decode cX9_tasting 1 = .ok (.aload_n 0, 1) := by decide +kernel
theorem dX9_tasting_2 : decode cX9_tasting 2 = .ok (.iload_n 1, 1) := by decide +kernel
theorem dX9_tasting_3 : decode cX9_tasting 3 = .ok (.iload_n 2, 1) := by decide +kernel
theorem dX9_tasting_4 : decode cX9_tasting 4 = .ok (.iload_n 3, 1) := by decide +kernel
theorem dX9_tasting_5 : decode cX9_tasting 5 = .ok (.invokevirtual 223, 3) := by decide +kernel
theorem dX9_tasting_8 : decode cX9_tasting 8 = .ok (.invokevirtual 79, 3) := by decide +kernel
theorem dX9_tasting_11 : decode cX9_tasting 11 = .ok (.ireturn, 1) := by decide +kernel
theorem dX9_addTasting_0 : decode cX9_addTasting 0 = .ok (.iload_n 2, 1) := by decide +kernel
theorem dX9_addTasting_1 : decode cX9_addTasting 1 = .ok (.invokestatic 101, 3) := by decide +kernel
theorem dX9_addTasting_4 : decode cX9_addTasting 4 = .ok (.ifCond .eq 13, 3) := by decide +kernel
theorem dX9_addTasting_7 : decode cX9_addTasting 7 = .ok (.iload_n 3, 1) := by decide +kernel
theorem dX9_addTasting_8 : decode cX9_addTasting 8 = .ok (.iconst 0, 1) := by decide +kernel
theorem dX9_addTasting_9 : decode cX9_addTasting 9 = .ok (.bipush 100, 2) := by decide +kernel
theorem dX9_addTasting_11 : decode cX9_addTasting 11 = .ok (.invokestatic 191, 3) := by decide +kernel
theorem dX9_addTasting_14 : decode cX9_addTasting 14 = .ok (.ifCond .ne 5, 3) := by decide +kernel
theorem dX9_addTasting_17 : decode cX9_addTasting 17 = .ok (.iconst (-1), 1) := by decide +kernel
theorem dX9_addTasting_18 : decode cX9_addTasting 18 = .ok (.ireturn, 1) := by decide +kernel
theorem dX9_addTasting_19 : decode cX9_addTasting 19 = .ok (.aload_n 0, 1) := by decide +kernel
theorem dX9_addTasting_20 : decode cX9_addTasting 20 = .ok (.getfield 12, 3) := by decide +kernel
theorem dX9_addTasting_23 : decode cX9_addTasting 23 = .ok (.getfield 86, 3) := by decide +kernel
theorem dX9_addTasting_26 : decode cX9_addTasting 26 = .ok (.iload_n 1, 1) := by decide +kernel
theorem dX9_addTasting_27 : decode cX9_addTasting 27 = .ok (.invokevirtual 92, 3) := by decide +kernel
theorem dX9_addTasting_30 : decode cX9_addTasting 30 = .ok (.ifCond .ne 6, 3) := by decide +kernel
theorem dX9_addTasting_33 : decode cX9_addTasting 33 = .ok (.bipush (-2), 2) := by decide +kernel
theorem dX9_addTasting_35 : decode cX9_addTasting 35 = .ok (.ireturn, 1) := by decide +kernel
theorem dX9_addTasting_36 : decode cX9_addTasting 36 = .ok (.aload_n 0, 1) := by decide +kernel
theorem dX9_addTasting_37 : decode cX9_addTasting 37 = .ok (.getfield 12, 3) := by decide +kernel
theorem dX9_addTasting_40 : decode cX9_addTasting 40 = .ok (.getfield 213, 3) := by decide +kernel
theorem dX9_addTasting_43 : decode cX9_addTasting 43 = .ok (.bipush 6, 2) := by decide +kernel
theorem dX9_addTasting_45 : decode cX9_addTasting 45 = .ok (.if_icmp .lt 6, 3) := by decide +kernel
theorem dX9_addTasting_48 : decode cX9_addTasting 48 = .ok (.bipush (-5), 2) := by decide +kernel
theorem dX9_addTasting_50 : decode cX9_addTasting 50 = .ok (.ireturn, 1) := by decide +kernel
theorem dX9_addTasting_51 : decode cX9_addTasting 51 = .ok (.aload_n 0, 1) := by decide +kernel
theorem dX9_addTasting_52 : decode cX9_addTasting 52 = .ok (.getfield 12, 3) := by decide +kernel
theorem dX9_addTasting_55 : decode cX9_addTasting 55 = .ok (.getfield 226, 3) := by decide +kernel
theorem dX9_addTasting_58 : decode cX9_addTasting 58 = .ok (.aload_n 0, 1) := by decide +kernel
theorem dX9_addTasting_59 : decode cX9_addTasting 59 = .ok (.getfield 12, 3) := by decide +kernel
theorem dX9_addTasting_62 : decode cX9_addTasting 62 = .ok (.getfield 213, 3) := by decide +kernel
theorem dX9_addTasting_65 : decode cX9_addTasting 65 = .ok (.iload_n 1, 1) := by decide +kernel
theorem dX9_addTasting_66 : decode cX9_addTasting 66 = .ok (.iload_n 2, 1) := by decide +kernel
theorem dX9_addTasting_67 : decode cX9_addTasting 67 = .ok (.iload_n 3, 1) := by decide +kernel
theorem dX9_addTasting_68 : decode cX9_addTasting 68 = .ok (.invokestatic 229, 3) := by decide +kernel
theorem dX9_addTasting_71 : decode cX9_addTasting 71 = .ok (.aload_n 0, 1) := by decide +kernel
theorem dX9_addTasting_72 : decode cX9_addTasting 72 = .ok (.getfield 12, 3) := by decide +kernel
theorem dX9_addTasting_75 : decode cX9_addTasting 75 = .ok (.dup, 1) := by decide +kernel
theorem dX9_addTasting_76 : decode cX9_addTasting 76 = .ok (.getfield 213, 3) := by decide +kernel
theorem dX9_addTasting_79 : decode cX9_addTasting 79 = .ok (.iconst 1, 1) := by decide +kernel
theorem dX9_addTasting_80 : decode cX9_addTasting 80 = .ok (.iadd, 1) := by decide +kernel
theorem dX9_addTasting_81 : decode cX9_addTasting 81 = .ok (.putfield 213, 3) := by decide +kernel
theorem dX9_addTasting_84 : decode cX9_addTasting 84 = .ok (.aload_n 0, 1) := by decide +kernel
theorem dX9_addTasting_85 : decode cX9_addTasting 85 = .ok (.getfield 12, 3) := by decide +kernel
theorem dX9_addTasting_88 : decode cX9_addTasting 88 = .ok (.getfield 213, 3) := by decide +kernel
theorem dX9_addTasting_91 : decode cX9_addTasting 91 = .ok (.ireturn, 1) := by decide +kernel
theorem dX9_fits_0 : decode cX9_fits 0 = .ok (.iload_n 1, 1) := by decide +kernel
theorem dX9_fits_1 : decode cX9_fits 1 = .ok (.iconst 0, 1) := by decide +kernel
theorem dX9_fits_2 : decode cX9_fits 2 = .ok (.iconst 3, 1) := by decide +kernel
theorem dX9_fits_3 : decode cX9_fits 3 = .ok (.invokestatic 191, 3) := by decide +kernel
theorem dX9_fits_6 : decode cX9_fits 6 = .ok (.ifCond .ne 5, 3) := by decide +kernel
theorem dX9_fits_9 : decode cX9_fits 9 = .ok (.iconst (-1), 1) := by decide +kernel
theorem dX9_fits_10 : decode cX9_fits 10 = .ok (.ireturn, 1) := by decide +kernel
theorem dX9_fits_11 : decode cX9_fits 11 = .ok (.aload_n 0, 1) := by decide +kernel
theorem dX9_fits_12 : decode cX9_fits 12 = .ok (.getfield 46, 3) := by decide +kernel
theorem dX9_fits_15 : decode cX9_fits 15 = .ok (.aload_n 0, 1) := by decide +kernel
theorem dX9_fits_16 : decode cX9_fits 16 = .ok (.getfield 12, 3) := by decide +kernel
theorem dX9_fits_19 : decode cX9_fits 19 = .ok (.iload_n 1, 1) := by decide +kernel
theorem dX9_fits_20 : decode cX9_fits 20 = .ok (.invokevirtual 233, 3) := by decide +kernel
theorem dX9_fits_23 : decode cX9_fits 23 = .ok (.istore 4, 2) := by decide +kernel
theorem dX9_fits_25 : decode cX9_fits 25 = .ok (.iload_n 2, 1) := by decide +kernel
theorem dX9_fits_26 : decode cX9_fits 26 = .ok (.iconst (-1), 1) := by decide +kernel
theorem dX9_fits_27 : decode cX9_fits 27 = .ok (.if_icmp .ne 6, 3) := by decide +kernel
theorem dX9_fits_30 : decode cX9_fits 30 = .ok (.iload 4, 2) := by decide +kernel
theorem dX9_fits_32 : decode cX9_fits 32 = .ok (.ireturn, 1) := by decide +kernel
theorem dX9_fits_33 : decode cX9_fits 33 = .ok (.iload 4, 2) := by decide +kernel
theorem dX9_fits_35 : decode cX9_fits 35 = .ok (.ifCond .ne 7, 3) := by decide +kernel
theorem dX9_fits_38 : decode cX9_fits 38 = .ok (.iconst (-1), 1) := by decide +kernel
theorem dX9_fits_39 : decode cX9_fits 39 = .ok (.goto 13, 3) := by decide +kernel
theorem dX9_fits_42 : decode cX9_fits 42 = .ok (.aload_n 0, 1) := by decide +kernel
theorem dX9_fits_43 : decode cX9_fits 43 = .ok (.getfield 46, 3) := by decide +kernel
theorem dX9_fits_46 : decode cX9_fits 46 = .ok (.iload_n 1, 1) := by decide +kernel
theorem dX9_fits_47 : decode cX9_fits 47 = .ok (.iload_n 2, 1) := by decide +kernel
theorem dX9_fits_48 : decode cX9_fits 48 = .ok (.iload_n 3, 1) := by decide +kernel
theorem dX9_fits_49 : decode cX9_fits 49 = .ok (.invokevirtual 220, 3) := by decide +kernel
theorem dX9_fits_52 : decode cX9_fits 52 = .ok (.ireturn, 1) := by decide +kernel
theorem dX9_cask_0 : decode cX9_cask 0 = .ok (.iload_n 1, 1) := by decide +kernel
theorem dX9_cask_1 : decode cX9_cask 1 = .ok (.iload_n 2, 1) := by decide +kernel
theorem dX9_cask_2 : decode cX9_cask 2 = .ok (.invokestatic 237, 3) := by decide +kernel
theorem dX9_cask_5 : decode cX9_cask 5 = .ok (.ifCond .eq 13, 3) := by decide +kernel
theorem dX9_cask_8 : decode cX9_cask 8 = .ok (.iload_n 3, 1) := by decide +kernel
theorem dX9_cask_9 : decode cX9_cask 9 = .ok (.iconst 0, 1) := by decide +kernel
theorem dX9_cask_10 : decode cX9_cask 10 = .ok (.bipush 6, 2) := by decide +kernel
theorem dX9_cask_12 : decode cX9_cask 12 = .ok (.invokestatic 191, 3) := by decide +kernel
theorem dX9_cask_15 : decode cX9_cask 15 = .ok (.ifCond .ne 7, 3) := by decide +kernel
theorem dX9_cask_18 : decode cX9_cask 18 = .ok (.ldc2_w 104, 3) := by decide +kernel
theorem dX9_cask_21 : decode cX9_cask 21 = .ok (.lreturn, 1) := by decide +kernel
theorem dX9_cask_22 : decode cX9_cask 22 = .ok (.iload_n 1, 1) := by decide +kernel
theorem dX9_cask_23 : decode cX9_cask 23 = .ok (.iload_n 2, 1) := by decide +kernel
theorem dX9_cask_24 : decode cX9_cask 24 = .ok (.isub, 1) := by decide +kernel
theorem dX9_cask_25 : decode cX9_cask 25 = .ok (.iload_n 1, 1) := by decide +kernel
theorem dX9_cask_26 : decode cX9_cask 26 = .ok (.iload_n 3, 1) := by decide +kernel
theorem dX9_cask_27 : decode cX9_cask 27 = .ok (.iload 4, 2) := by decide +kernel
theorem dX9_cask_29 : decode cX9_cask 29 = .ok (.invokestatic 194, 3) := by decide +kernel
theorem dX9_cask_32 : decode cX9_cask 32 = .ok (.lreturn, 1) := by decide +kernel
theorem dX9_guests_0 : decode cX9_guests 0 = .ok (.iload_n 1, 1) := by decide +kernel
theorem dX9_guests_1 : decode cX9_guests 1 = .ok (.iload_n 2, 1) := by decide +kernel
theorem dX9_guests_2 : decode cX9_guests 2 = .ok (.invokestatic 237, 3) := by decide +kernel
theorem dX9_guests_5 : decode cX9_guests 5 = .ok (.ifCond .eq 13, 3) := by decide +kernel
theorem dX9_guests_8 : decode cX9_guests 8 = .ok (.iload_n 3, 1) := by decide +kernel
theorem dX9_guests_9 : decode cX9_guests 9 = .ok (.iconst 0, 1) := by decide +kernel
theorem dX9_guests_10 : decode cX9_guests 10 = .ok (.bipush 100, 2) := by decide +kernel
theorem dX9_guests_12 : decode cX9_guests 12 = .ok (.invokestatic 191, 3) := by decide +kernel
theorem dX9_guests_15 : decode cX9_guests 15 = .ok (.ifCond .ne 5, 3) := by decide +kernel
theorem dX9_guests_18 : decode cX9_guests 18 = .ok (.iconst (-1), 1) := by decide +kernel
theorem dX9_guests_19 : decode cX9_guests 19 = .ok (.ireturn, 1) := by decide +kernel
theorem dX9_guests_20 : decode cX9_guests 20 = .ok (.iconst 0, 1) := by decide +kernel
theorem dX9_guests_21 : decode cX9_guests 21 = .ok (.istore 4, 2) := by decide +kernel
theorem dX9_guests_23 : decode cX9_guests 23 = .ok (.iload 4, 2) := by decide +kernel
theorem dX9_guests_25 : decode cX9_guests 25 = .ok (.bipush 6, 2) := by decide +kernel
theorem dX9_guests_27 : decode cX9_guests 27 = .ok (.if_icmp .gt 39, 3) := by decide +kernel
theorem dX9_guests_30 : decode cX9_guests 30 = .ok (.ldc2_w 198, 3) := by decide +kernel
theorem dX9_guests_33 : decode cX9_guests 33 = .ok (.iload_n 1, 1) := by decide +kernel
theorem dX9_guests_34 : decode cX9_guests 34 = .ok (.iload_n 2, 1) := by decide +kernel
theorem dX9_guests_35 : decode cX9_guests 35 = .ok (.isub, 1) := by decide +kernel
theorem dX9_guests_36 : decode cX9_guests 36 = .ok (.i2l, 1) := by decide +kernel
theorem dX9_guests_37 : decode cX9_guests 37 = .ok (.iload 4, 2) := by decide +kernel
theorem dX9_guests_39 : decode cX9_guests 39 = .ok (.invokestatic 200, 3) := by decide +kernel
theorem dX9_guests_42 : decode cX9_guests 42 = .ok (.lmul, 1) := by decide +kernel
theorem dX9_guests_43 : decode cX9_guests 43 = .ok (.iload_n 3, 1) := by decide +kernel
theorem dX9_guests_44 : decode cX9_guests 44 = .ok (.i2l, 1) := by decide +kernel
theorem dX9_guests_45 : decode cX9_guests 45 = .ok (.iload_n 1, 1) := by decide +kernel
theorem dX9_guests_46 : decode cX9_guests 46 = .ok (.i2l, 1) := by decide +kernel
theorem dX9_guests_47 : decode cX9_guests 47 = .ok (.iload 4, 2) := by decide +kernel
theorem dX9_guests_49 : decode cX9_guests 49 = .ok (.invokestatic 200, 3) := by decide +kernel
theorem dX9_guests_52 : decode cX9_guests 52 = .ok (.lmul, 1) := by decide +kernel
theorem dX9_guests_53 : decode cX9_guests 53 = .ok (.lcmp, 1) := by decide +kernel
theorem dX9_guests_54 : decode cX9_guests 54 = .ok (.ifCond .ge 6, 3) := by decide +kernel
theorem dX9_guests_57 : decode cX9_guests 57 = .ok (.iload 4, 2) := by decide +kernel
theorem dX9_guests_59 : decode cX9_guests 59 = .ok (.ireturn, 1) := by decide +kernel
theorem dX9_guests_60 : decode cX9_guests 60 = .ok (.iinc 4 1, 3) := by decide +kernel
theorem dX9_guests_63 : decode cX9_guests 63 = .ok (.goto (-40), 3) := by decide +kernel
theorem dX9_guests_66 : decode cX9_guests 66 = .ok (.iconst (-1), 1) := by decide +kernel
theorem dX9_guests_67 : decode cX9_guests 67 = .ok (.ireturn, 1) := by decide +kernel
theorem dX9_isCask_0 : decode cX9_isCask 0 = .ok (.iload_n 0, 1) := by decide +kernel
theorem dX9_isCask_1 : decode cX9_isCask 1 = .ok (.invokestatic 82, 3) := by decide +kernel
theorem dX9_isCask_4 : decode cX9_isCask 4 = .ok (.ifCond .eq 16, 3) := by decide +kernel
theorem dX9_isCask_7 : decode cX9_isCask 7 = .ok (.iload_n 1, 1) := by decide +kernel
theorem dX9_isCask_8 : decode cX9_isCask 8 = .ok (.iconst 0, 1) := by decide +kernel
theorem dX9_isCask_9 : decode cX9_isCask 9 = .ok (.iload_n 0, 1) := by decide +kernel
theorem dX9_isCask_10 : decode cX9_isCask 10 = .ok (.invokestatic 191, 3) := by decide +kernel
theorem dX9_isCask_13 : decode cX9_isCask 13 = .ok (.ifCond .eq 7, 3) := by decide +kernel
theorem dX9_isCask_16 : decode cX9_isCask 16 = .ok (.iconst 1, 1) := by decide +kernel
theorem dX9_isCask_17 : decode cX9_isCask 17 = .ok (.goto 4, 3) := by decide +kernel
theorem dX9_isCask_20 : decode cX9_isCask 20 = .ok (.iconst 0, 1) := by decide +kernel
theorem dX9_isCask_21 : decode cX9_isCask 21 = .ok (.ireturn, 1) := by decide +kernel
theorem dX9_rinse_0 : decode cX9_rinse 0 = .ok (.iload_n 1, 1) := by decide +kernel
theorem dX9_rinse_1 : decode cX9_rinse 1 = .ok (.iconst 1, 1) := by decide +kernel
theorem dX9_rinse_2 : decode cX9_rinse 2 = .ok (.bipush 9, 2) := by decide +kernel
theorem dX9_rinse_4 : decode cX9_rinse 4 = .ok (.invokestatic 191, 3) := by decide +kernel
theorem dX9_rinse_7 : decode cX9_rinse 7 = .ok (.ifCond .eq 13, 3) := by decide +kernel
theorem dX9_rinse_10 : decode cX9_rinse 10 = .ok (.iload_n 2, 1) := by decide +kernel
theorem dX9_rinse_11 : decode cX9_rinse 11 = .ok (.iconst 0, 1) := by decide +kernel
theorem dX9_rinse_12 : decode cX9_rinse 12 = .ok (.bipush 60, 2) := by decide +kernel
theorem dX9_rinse_14 : decode cX9_rinse 14 = .ok (.invokestatic 191, 3) := by decide +kernel
theorem dX9_rinse_17 : decode cX9_rinse 17 = .ok (.ifCond .ne 7, 3) := by decide +kernel
theorem dX9_rinse_20 : decode cX9_rinse 20 = .ok (.ldc2_w 104, 3) := by decide +kernel
theorem dX9_rinse_23 : decode cX9_rinse 23 = .ok (.lreturn, 1) := by decide +kernel
theorem dX9_rinse_24 : decode cX9_rinse 24 = .ok (.iload_n 3, 1) := by decide +kernel
theorem dX9_rinse_25 : decode cX9_rinse 25 = .ok (.iconst 1, 1) := by decide +kernel
theorem dX9_rinse_26 : decode cX9_rinse 26 = .ok (.if_icmp .lt 21, 3) := by decide +kernel
theorem dX9_rinse_29 : decode cX9_rinse 29 = .ok (.iload_n 3, 1) := by decide +kernel
theorem dX9_rinse_30 : decode cX9_rinse 30 = .ok (.bipush 6, 2) := by decide +kernel
theorem dX9_rinse_32 : decode cX9_rinse 32 = .ok (.if_icmp .gt 15, 3) := by decide +kernel
theorem dX9_rinse_35 : decode cX9_rinse 35 = .ok (.iload 4, 2) := by decide +kernel
theorem dX9_rinse_37 : decode cX9_rinse 37 = .ok (.iconst 0, 1) := by decide +kernel
theorem dX9_rinse_38 : decode cX9_rinse 38 = .ok (.iconst 1, 1) := by decide +kernel
theorem dX9_rinse_39 : decode cX9_rinse 39 = .ok (.iload_n 3, 1) := by decide +kernel
theorem dX9_rinse_40 : decode cX9_rinse 40 = .ok (.iadd, 1) := by decide +kernel
theorem dX9_rinse_41 : decode cX9_rinse 41 = .ok (.invokestatic 191, 3) := by decide +kernel
theorem dX9_rinse_44 : decode cX9_rinse 44 = .ok (.ifCond .ne 7, 3) := by decide +kernel
theorem dX9_rinse_47 : decode cX9_rinse 47 = .ok (.ldc2_w 104, 3) := by decide +kernel
theorem dX9_rinse_50 : decode cX9_rinse 50 = .ok (.lreturn, 1) := by decide +kernel
theorem dX9_rinse_51 : decode cX9_rinse 51 = .ok (.iload_n 2, 1) := by decide +kernel
theorem dX9_rinse_52 : decode cX9_rinse 52 = .ok (.iload_n 3, 1) := by decide +kernel
theorem dX9_rinse_53 : decode cX9_rinse 53 = .ok (.idiv, 1) := by decide +kernel
theorem dX9_rinse_54 : decode cX9_rinse 54 = .ok (.istore 5, 2) := by decide +kernel
theorem dX9_rinse_56 : decode cX9_rinse 56 = .ok (.iload_n 2, 1) := by decide +kernel
theorem dX9_rinse_57 : decode cX9_rinse 57 = .ok (.iload_n 3, 1) := by decide +kernel
theorem dX9_rinse_58 : decode cX9_rinse 58 = .ok (.irem, 1) := by decide +kernel
theorem dX9_rinse_59 : decode cX9_rinse 59 = .ok (.istore 6, 2) := by decide +kernel
theorem dX9_rinse_61 : decode cX9_rinse 61 = .ok (.iload 4, 2) := by decide +kernel
theorem dX9_rinse_63 : decode cX9_rinse 63 = .ok (.iconst 2, 1) := by decide +kernel
theorem dX9_rinse_64 : decode cX9_rinse 64 = .ok (.if_icmp .lt 26, 3) := by decide +kernel
theorem dX9_rinse_67 : decode cX9_rinse 67 = .ok (.iload 4, 2) := by decide +kernel
theorem dX9_rinse_69 : decode cX9_rinse 69 = .ok (.iconst 2, 1) := by decide +kernel
theorem dX9_rinse_70 : decode cX9_rinse 70 = .ok (.isub, 1) := by decide +kernel
theorem dX9_rinse_71 : decode cX9_rinse 71 = .ok (.iload_n 3, 1) := by decide +kernel
theorem dX9_rinse_72 : decode cX9_rinse 72 = .ok (.iload 6, 2) := by decide +kernel
theorem dX9_rinse_74 : decode cX9_rinse 74 = .ok (.isub, 1) := by decide +kernel
theorem dX9_rinse_75 : decode cX9_rinse 75 = .ok (.if_icmp .ge 9, 3) := by decide +kernel
theorem dX9_rinse_78 : decode cX9_rinse 78 = .ok (.iload 5, 2) := by decide +kernel
theorem dX9_rinse_80 : decode cX9_rinse 80 = .ok (.i2l, 1) := by decide +kernel
theorem dX9_rinse_81 : decode cX9_rinse 81 = .ok (.goto 8, 3) := by decide +kernel
theorem dX9_rinse_84 : decode cX9_rinse 84 = .ok (.iload 5, 2) := by decide +kernel
theorem dX9_rinse_86 : decode cX9_rinse 86 = .ok (.iconst 1, 1) := by decide +kernel
theorem dX9_rinse_87 : decode cX9_rinse 87 = .ok (.iadd, 1) := by decide +kernel
theorem dX9_rinse_88 : decode cX9_rinse 88 = .ok (.i2l, 1) := by decide +kernel
theorem dX9_rinse_89 : decode cX9_rinse 89 = .ok (.lreturn, 1) := by decide +kernel
theorem dX9_rinse_90 : decode cX9_rinse 90 = .ok (.iload_n 1, 1) := by decide +kernel
theorem dX9_rinse_91 : decode cX9_rinse 91 = .ok (.i2l, 1) := by decide +kernel
theorem dX9_rinse_92 : decode cX9_rinse 92 = .ok (.iload_n 3, 1) := by decide +kernel
theorem dX9_rinse_93 : decode cX9_rinse 93 = .ok (.invokestatic 200, 3) := by decide +kernel
theorem dX9_rinse_96 : decode cX9_rinse 96 = .ok (.lstore 7, 2) := by decide +kernel
theorem dX9_rinse_98 : decode cX9_rinse 98 = .ok (.iload_n 1, 1) := by decide +kernel
theorem dX9_rinse_99 : decode cX9_rinse 99 = .ok (.iload 5, 2) := by decide +kernel
theorem dX9_rinse_101 : decode cX9_rinse 101 = .ok (.iadd, 1) := by decide +kernel
theorem dX9_rinse_102 : decode cX9_rinse 102 = .ok (.i2l, 1) := by decide +kernel
theorem dX9_rinse_103 : decode cX9_rinse 103 = .ok (.iload_n 3, 1) := by decide +kernel
theorem dX9_rinse_104 : decode cX9_rinse 104 = .ok (.iload 6, 2) := by decide +kernel
theorem dX9_rinse_106 : decode cX9_rinse 106 = .ok (.isub, 1) := by decide +kernel
theorem dX9_rinse_107 : decode cX9_rinse 107 = .ok (.invokestatic 200, 3) := by decide +kernel
theorem dX9_rinse_110 : decode cX9_rinse 110 = .ok (.iload_n 1, 1) := by decide +kernel
theorem dX9_rinse_111 : decode cX9_rinse 111 = .ok (.iload 5, 2) := by decide +kernel
theorem dX9_rinse_113 : decode cX9_rinse 113 = .ok (.iadd, 1) := by decide +kernel
theorem dX9_rinse_114 : decode cX9_rinse 114 = .ok (.iconst 1, 1) := by decide +kernel
theorem dX9_rinse_115 : decode cX9_rinse 115 = .ok (.iadd, 1) := by decide +kernel
theorem dX9_rinse_116 : decode cX9_rinse 116 = .ok (.i2l, 1) := by decide +kernel
theorem dX9_rinse_117 : decode cX9_rinse 117 = .ok (.iload 6, 2) := by decide +kernel
theorem dX9_rinse_119 : decode cX9_rinse 119 = .ok (.invokestatic 200, 3) := by decide +kernel
theorem dX9_rinse_122 : decode cX9_rinse 122 = .ok (.lmul, 1) := by decide +kernel
theorem dX9_rinse_123 : decode cX9_rinse 123 = .ok (.lstore 9, 2) := by decide +kernel
theorem dX9_rinse_125 : decode cX9_rinse 125 = .ok (.lload 7, 2) := by decide +kernel
theorem dX9_rinse_127 : decode cX9_rinse 127 = .ok (.lload 9, 2) := by decide +kernel
theorem dX9_rinse_129 : decode cX9_rinse 129 = .ok (.iload 4, 2) := by decide +kernel
theorem dX9_rinse_131 : decode cX9_rinse 131 = .ok (.invokestatic 240, 3) := by decide +kernel
theorem dX9_rinse_134 : decode cX9_rinse 134 = .ok (.lreturn, 1) := by decide +kernel
theorem dX9_wine_0 : decode cX9_wine 0 = .ok (.aload_n 0, 1) := by decide +kernel
theorem dX9_wine_1 : decode cX9_wine 1 = .ok (.aload_n 0, 1) := by decide +kernel
theorem dX9_wine_2 : decode cX9_wine 2 = .ok (.iload_n 1, 1) := by decide +kernel
theorem dX9_wine_3 : decode cX9_wine 3 = .ok (.iload_n 2, 1) := by decide +kernel
theorem dX9_wine_4 : decode cX9_wine 4 = .ok (.iload_n 3, 1) := by decide +kernel
theorem dX9_wine_5 : decode cX9_wine 5 = .ok (.invokevirtual 244, 3) := by decide +kernel
theorem dX9_wine_8 : decode cX9_wine 8 = .ok (.invokevirtual 79, 3) := by decide +kernel
theorem dX9_wine_11 : decode cX9_wine 11 = .ok (.ireturn, 1) := by decide +kernel
theorem dX9_addWine_0 : decode cX9_addWine 0 = .ok (.iload_n 1, 1) := by decide +kernel
theorem dX9_addWine_1 : decode cX9_addWine 1 = .ok (.iconst 0, 1) := by decide +kernel
theorem dX9_addWine_2 : decode cX9_addWine 2 = .ok (.bipush 100, 2) := by decide +kernel
theorem dX9_addWine_4 : decode cX9_addWine 4 = .ok (.invokestatic 191, 3) := by decide +kernel
theorem dX9_addWine_7 : decode cX9_addWine 7 = .ok (.ifCond .eq 23, 3) := by decide +kernel
theorem dX9_addWine_10 : decode cX9_addWine 10 = .ok (.iload_n 2, 1) := by decide +kernel
theorem dX9_addWine_11 : decode cX9_addWine 11 = .ok (.iconst 0, 1) := by decide +kernel
theorem dX9_addWine_12 : decode cX9_addWine 12 = .ok (.bipush 99, 2) := by decide +kernel
theorem dX9_addWine_14 : decode cX9_addWine 14 = .ok (.invokestatic 191, 3) := by decide +kernel
theorem dX9_addWine_17 : decode cX9_addWine 17 = .ok (.ifCond .eq 13, 3) := by decide +kernel
theorem dX9_addWine_20 : decode cX9_addWine 20 = .ok (.iload_n 3, 1) := by decide +kernel
theorem dX9_addWine_21 : decode cX9_addWine 21 = .ok (.iconst 0, 1) := by decide +kernel
theorem dX9_addWine_22 : decode cX9_addWine 22 = .ok (.bipush 20, 2) := by decide +kernel
theorem dX9_addWine_24 : decode cX9_addWine 24 = .ok (.invokestatic 191, 3) := by decide +kernel
theorem dX9_addWine_27 : decode cX9_addWine 27 = .ok (.ifCond .ne 5, 3) := by decide +kernel
theorem dX9_addWine_30 : decode cX9_addWine 30 = .ok (.iconst (-1), 1) := by decide +kernel
theorem dX9_addWine_31 : decode cX9_addWine 31 = .ok (.ireturn, 1) := by decide +kernel
theorem dX9_addWine_32 : decode cX9_addWine 32 = .ok (.aload_n 0, 1) := by decide +kernel
theorem dX9_addWine_33 : decode cX9_addWine 33 = .ok (.getfield 12, 3) := by decide +kernel
theorem dX9_addWine_36 : decode cX9_addWine 36 = .ok (.getfield 247, 3) := by decide +kernel
theorem dX9_addWine_39 : decode cX9_addWine 39 = .ok (.bipush 6, 2) := by decide +kernel
theorem dX9_addWine_41 : decode cX9_addWine 41 = .ok (.if_icmp .lt 6, 3) := by decide +kernel
theorem dX9_addWine_44 : decode cX9_addWine 44 = .ok (.bipush (-5), 2) := by decide +kernel
theorem dX9_addWine_46 : decode cX9_addWine 46 = .ok (.ireturn, 1) := by decide +kernel
theorem dX9_addWine_47 : decode cX9_addWine 47 = .ok (.aload_n 0, 1) := by decide +kernel
theorem dX9_addWine_48 : decode cX9_addWine 48 = .ok (.getfield 12, 3) := by decide +kernel
theorem dX9_addWine_51 : decode cX9_addWine 51 = .ok (.getfield 250, 3) := by decide +kernel
theorem dX9_addWine_54 : decode cX9_addWine 54 = .ok (.aload_n 0, 1) := by decide +kernel
theorem dX9_addWine_55 : decode cX9_addWine 55 = .ok (.getfield 12, 3) := by decide +kernel
theorem dX9_addWine_58 : decode cX9_addWine 58 = .ok (.getfield 247, 3) := by decide +kernel
theorem dX9_addWine_61 : decode cX9_addWine 61 = .ok (.iload_n 1, 1) := by decide +kernel
theorem dX9_addWine_62 : decode cX9_addWine 62 = .ok (.iload_n 2, 1) := by decide +kernel
theorem dX9_addWine_63 : decode cX9_addWine 63 = .ok (.iload_n 3, 1) := by decide +kernel
theorem dX9_addWine_64 : decode cX9_addWine 64 = .ok (.invokestatic 229, 3) := by decide +kernel
theorem dX9_addWine_67 : decode cX9_addWine 67 = .ok (.aload_n 0, 1) := by decide +kernel
theorem dX9_addWine_68 : decode cX9_addWine 68 = .ok (.getfield 12, 3) := by decide +kernel
theorem dX9_addWine_71 : decode cX9_addWine 71 = .ok (.dup, 1) := by decide +kernel
theorem dX9_addWine_72 : decode cX9_addWine 72 = .ok (.getfield 247, 3) := by decide +kernel
theorem dX9_addWine_75 : decode cX9_addWine 75 = .ok (.iconst 1, 1) := by decide +kernel
theorem dX9_addWine_76 : decode cX9_addWine 76 = .ok (.iadd, 1) := by decide +kernel
theorem dX9_addWine_77 : decode cX9_addWine 77 = .ok (.putfield 247, 3) := by decide +kernel
theorem dX9_addWine_80 : decode cX9_addWine 80 = .ok (.aload_n 0, 1) := by decide +kernel
theorem dX9_addWine_81 : decode cX9_addWine 81 = .ok (.getfield 12, 3) := by decide +kernel
theorem dX9_addWine_84 : decode cX9_addWine 84 = .ok (.getfield 247, 3) := by decide +kernel
theorem dX9_addWine_87 : decode cX9_addWine 87 = .ok (.iconst 1, 1) := by decide +kernel
theorem dX9_addWine_88 : decode cX9_addWine 88 = .ok (.isub, 1) := by decide +kernel
theorem dX9_addWine_89 : decode cX9_addWine 89 = .ok (.ireturn, 1) := by decide +kernel
theorem dX9_drink_0 : decode cX9_drink 0 = .ok (.aload_n 0, 1) := by decide +kernel
theorem dX9_drink_1 : decode cX9_drink 1 = .ok (.aload_n 0, 1) := by decide +kernel
theorem dX9_drink_2 : decode cX9_drink 2 = .ok (.iload_n 1, 1) := by decide +kernel
theorem dX9_drink_3 : decode cX9_drink 3 = .ok (.invokevirtual 253, 3) := by decide +kernel
theorem dX9_drink_6 : decode cX9_drink 6 = .ok (.invokevirtual 79, 3) := by decide +kernel
theorem dX9_drink_9 : decode cX9_drink 9 = .ok (.ireturn, 1) := by decide +kernel
theorem dX9_removeWine_0 : decode cX9_removeWine 0 = .ok (.iload_n 1, 1) := by decide +kernel
theorem dX9_removeWine_1 : decode cX9_removeWine 1 = .ok (.ifCond .lt 14, 3) := by decide +kernel
theorem dX9_removeWine_4 : decode cX9_removeWine 4 = .ok (.iload_n 1, 1) := by decide +kernel
theorem dX9_removeWine_5 : decode cX9_removeWine 5 = .ok (.aload_n 0, 1) := by decide +kernel
theorem dX9_removeWine_6 : decode cX9_removeWine 6 = .ok (.getfield 12, 3) := by decide +kernel
theorem dX9_removeWine_9 : decode cX9_removeWine 9 = .ok (.getfield 247, 3) := by decide +kernel
theorem dX9_removeWine_12 : decode cX9_removeWine 12 = .ok (.if_icmp .lt 6, 3) := by decide +kernel
theorem dX9_removeWine_15 : decode cX9_removeWine 15 = .ok (.bipush (-2), 2) := by decide +kernel
theorem dX9_removeWine_17 : decode cX9_removeWine 17 = .ok (.ireturn, 1) := by decide +kernel
theorem dX9_removeWine_18 : decode cX9_removeWine 18 = .ok (.iconst 3, 1) := by decide +kernel
theorem dX9_removeWine_19 : decode cX9_removeWine 19 = .ok (.iload_n 1, 1) := by decide +kernel
theorem dX9_removeWine_20 : decode cX9_removeWine 20 = .ok (.imul, 1) := by decide +kernel
theorem dX9_removeWine_21 : decode cX9_removeWine 21 = .ok (.istore_n 2, 1) := by decide +kernel
theorem dX9_removeWine_22 : decode cX9_removeWine 22 = .ok (.iload_n 2, 1) := by decide +kernel
theorem dX9_removeWine_23 : decode cX9_removeWine 23 = .ok (.iconst 3, 1) := by decide +kernel
theorem dX9_removeWine_24 : decode cX9_removeWine 24 = .ok (.iadd, 1) := by decide +kernel
theorem dX9_removeWine_25 : decode cX9_removeWine 25 = .ok (.iconst 3, 1) := by decide +kernel
theorem dX9_removeWine_26 : decode cX9_removeWine 26 = .ok (.aload_n 0, 1) := by decide +kernel
theorem dX9_removeWine_27 : decode cX9_removeWine 27 = .ok (.getfield 12, 3) := by decide +kernel
theorem dX9_removeWine_30 : decode cX9_removeWine 30 = .ok (.getfield 247, 3) := by decide +kernel
theorem dX9_removeWine_33 : decode cX9_removeWine 33 = .ok (.imul, 1) := by decide +kernel
theorem dX9_removeWine_34 : decode cX9_removeWine 34 = .ok (.if_icmp .ge 29, 3) := by decide +kernel
theorem dX9_removeWine_37 : decode cX9_removeWine 37 = .ok (.aload_n 0, 1) := by decide +kernel
theorem dX9_removeWine_38 : decode cX9_removeWine 38 = .ok (.getfield 12, 3) := by decide +kernel
theorem dX9_removeWine_41 : decode cX9_removeWine 41 = .ok (.getfield 250, 3) := by decide +kernel
theorem dX9_removeWine_44 : decode cX9_removeWine 44 = .ok (.iload_n 2, 1) := by decide +kernel
theorem dX9_removeWine_45 : decode cX9_removeWine 45 = .ok (.aload_n 0, 1) := by decide +kernel
theorem dX9_removeWine_46 : decode cX9_removeWine 46 = .ok (.getfield 12, 3) := by decide +kernel
theorem dX9_removeWine_49 : decode cX9_removeWine 49 = .ok (.getfield 250, 3) := by decide +kernel
theorem dX9_removeWine_52 : decode cX9_removeWine 52 = .ok (.iload_n 2, 1) := by decide +kernel
theorem dX9_removeWine_53 : decode cX9_removeWine 53 = .ok (.iconst 3, 1) := by decide +kernel
theorem dX9_removeWine_54 : decode cX9_removeWine 54 = .ok (.iadd, 1) := by decide +kernel
theorem dX9_removeWine_55 : decode cX9_removeWine 55 = .ok (.iaload, 1) := by decide +kernel
theorem dX9_removeWine_56 : decode cX9_removeWine 56 = .ok (.iastore, 1) := by decide +kernel
theorem dX9_removeWine_57 : decode cX9_removeWine 57 = .ok (.iinc 2 1, 3) := by decide +kernel
theorem dX9_removeWine_60 : decode cX9_removeWine 60 = .ok (.goto (-38), 3) := by decide +kernel
theorem dX9_removeWine_63 : decode cX9_removeWine 63 = .ok (.aload_n 0, 1) := by decide +kernel
theorem dX9_removeWine_64 : decode cX9_removeWine 64 = .ok (.getfield 12, 3) := by decide +kernel
theorem dX9_removeWine_67 : decode cX9_removeWine 67 = .ok (.dup, 1) := by decide +kernel
theorem dX9_removeWine_68 : decode cX9_removeWine 68 = .ok (.getfield 247, 3) := by decide +kernel
theorem dX9_removeWine_71 : decode cX9_removeWine 71 = .ok (.iconst 1, 1) := by decide +kernel
theorem dX9_removeWine_72 : decode cX9_removeWine 72 = .ok (.isub, 1) := by decide +kernel
theorem dX9_removeWine_73 : decode cX9_removeWine 73 = .ok (.putfield 247, 3) := by decide +kernel
theorem dX9_removeWine_76 : decode cX9_removeWine 76 = .ok (.aload_n 0, 1) := by decide +kernel
theorem dX9_removeWine_77 : decode cX9_removeWine 77 = .ok (.getfield 12, 3) := by decide +kernel
theorem dX9_removeWine_80 : decode cX9_removeWine 80 = .ok (.getfield 247, 3) := by decide +kernel
theorem dX9_removeWine_83 : decode cX9_removeWine 83 = .ok (.ireturn, 1) := by decide +kernel
theorem dX9_mix_0 : decode cX9_mix 0 = .ok (.iload_n 1, 1) := by decide +kernel
theorem dX9_mix_1 : decode cX9_mix 1 = .ok (.iconst 1, 1) := by decide +kernel
theorem dX9_mix_2 : decode cX9_mix 2 = .ok (.bipush 20, 2) := by decide +kernel
theorem dX9_mix_4 : decode cX9_mix 4 = .ok (.invokestatic 191, 3) := by decide +kernel
theorem dX9_mix_7 : decode cX9_mix 7 = .ok (.ifCond .eq 13, 3) := by decide +kernel
theorem dX9_mix_10 : decode cX9_mix 10 = .ok (.iload_n 2, 1) := by decide +kernel
theorem dX9_mix_11 : decode cX9_mix 11 = .ok (.iconst 0, 1) := by decide +kernel
theorem dX9_mix_12 : decode cX9_mix 12 = .ok (.bipush 100, 2) := by decide +kernel
theorem dX9_mix_14 : decode cX9_mix 14 = .ok (.invokestatic 191, 3) := by decide +kernel
theorem dX9_mix_17 : decode cX9_mix 17 = .ok (.ifCond .ne 5, 3) := by decide +kernel
theorem dX9_mix_20 : decode cX9_mix 20 = .ok (.iconst (-1), 1) := by decide +kernel
theorem dX9_mix_21 : decode cX9_mix 21 = .ok (.ireturn, 1) := by decide +kernel
theorem dX9_mix_22 : decode cX9_mix 22 = .ok (.iload_n 3, 1) := by decide +kernel
theorem dX9_mix_23 : decode cX9_mix 23 = .ok (.ifCond .lt 14, 3) := by decide +kernel
theorem dX9_mix_26 : decode cX9_mix 26 = .ok (.iload_n 3, 1) := by decide +kernel
theorem dX9_mix_27 : decode cX9_mix 27 = .ok (.aload_n 0, 1) := by decide +kernel
theorem dX9_mix_28 : decode cX9_mix 28 = .ok (.getfield 12, 3) := by decide +kernel
theorem dX9_mix_31 : decode cX9_mix 31 = .ok (.getfield 247, 3) := by decide +kernel
theorem dX9_mix_34 : decode cX9_mix 34 = .ok (.if_icmp .le 5, 3) := by decide +kernel
theorem dX9_mix_37 : decode cX9_mix 37 = .ok (.iconst (-1), 1) := by decide +kernel
theorem dX9_mix_38 : decode cX9_mix 38 = .ok (.ireturn, 1) := by decide +kernel
theorem dX9_mix_39 : decode cX9_mix 39 = .ok (.aload_n 0, 1) := by decide +kernel
theorem dX9_mix_40 : decode cX9_mix 40 = .ok (.getfield 53, 3) := by decide +kernel
theorem dX9_mix_43 : decode cX9_mix 43 = .ok (.aload_n 0, 1) := by decide +kernel
theorem dX9_mix_44 : decode cX9_mix 44 = .ok (.getfield 12, 3) := by decide +kernel
theorem dX9_mix_47 : decode cX9_mix 47 = .ok (.iload_n 1, 1) := by decide +kernel
theorem dX9_mix_48 : decode cX9_mix 48 = .ok (.iload_n 2, 1) := by decide +kernel
theorem dX9_mix_49 : decode cX9_mix 49 = .ok (.invokevirtual 256, 3) := by decide +kernel
theorem dX9_mix_52 : decode cX9_mix 52 = .ok (.istore 4, 2) := by decide +kernel
theorem dX9_mix_54 : decode cX9_mix 54 = .ok (.iload_n 3, 1) := by decide +kernel
theorem dX9_mix_55 : decode cX9_mix 55 = .ok (.ifCond .eq 9, 3) := by decide +kernel
theorem dX9_mix_58 : decode cX9_mix 58 = .ok (.iload 4, 2) := by decide +kernel
theorem dX9_mix_60 : decode cX9_mix 60 = .ok (.iconst (-1), 1) := by decide +kernel
theorem dX9_mix_61 : decode cX9_mix 61 = .ok (.if_icmp .ne 8, 3) := by decide +kernel
theorem dX9_mix_64 : decode cX9_mix 64 = .ok (.iload 4, 2) := by decide +kernel
theorem dX9_mix_66 : decode cX9_mix 66 = .ok (.goto 14, 3) := by decide +kernel
theorem dX9_mix_69 : decode cX9_mix 69 = .ok (.aload_n 0, 1) := by decide +kernel
theorem dX9_mix_70 : decode cX9_mix 70 = .ok (.getfield 53, 3) := by decide +kernel
theorem dX9_mix_73 : decode cX9_mix 73 = .ok (.getfield 260, 3) := by decide +kernel
theorem dX9_mix_76 : decode cX9_mix 76 = .ok (.iload_n 3, 1) := by decide +kernel
theorem dX9_mix_77 : decode cX9_mix 77 = .ok (.iconst 1, 1) := by decide +kernel
theorem dX9_mix_78 : decode cX9_mix 78 = .ok (.isub, 1) := by decide +kernel
theorem dX9_mix_79 : decode cX9_mix 79 = .ok (.iaload, 1) := by decide +kernel
theorem dX9_mix_80 : decode cX9_mix 80 = .ok (.ireturn, 1) := by decide +kernel
theorem dX9_cards_0 : decode cX9_cards 0 = .ok (.iload_n 1, 1) := by decide +kernel
theorem dX9_cards_1 : decode cX9_cards 1 = .ok (.iconst 0, 1) := by decide +kernel
theorem dX9_cards_2 : decode cX9_cards 2 = .ok (.bipush 20, 2) := by decide +kernel
theorem dX9_cards_4 : decode cX9_cards 4 = .ok (.invokestatic 191, 3) := by decide +kernel
theorem dX9_cards_7 : decode cX9_cards 7 = .ok (.ifCond .eq 13, 3) := by decide +kernel
theorem dX9_cards_10 : decode cX9_cards 10 = .ok (.iload_n 2, 1) := by decide +kernel
theorem dX9_cards_11 : decode cX9_cards 11 = .ok (.iconst 0, 1) := by decide +kernel
theorem dX9_cards_12 : decode cX9_cards 12 = .ok (.bipush 20, 2) := by decide +kernel
theorem dX9_cards_14 : decode cX9_cards 14 = .ok (.invokestatic 191, 3) := by decide +kernel
theorem dX9_cards_17 : decode cX9_cards 17 = .ok (.ifCond .ne 7, 3) := by decide +kernel
theorem dX9_cards_20 : decode cX9_cards 20 = .ok (.ldc2_w 104, 3) := by decide +kernel
theorem dX9_cards_23 : decode cX9_cards 23 = .ok (.lreturn, 1) := by decide +kernel
theorem dX9_cards_24 : decode cX9_cards 24 = .ok (.iload_n 3, 1) := by decide +kernel
theorem dX9_cards_25 : decode cX9_cards 25 = .ok (.iconst 0, 1) := by decide +kernel
theorem dX9_cards_26 : decode cX9_cards 26 = .ok (.iload_n 1, 1) := by decide +kernel
theorem dX9_cards_27 : decode cX9_cards 27 = .ok (.invokestatic 191, 3) := by decide +kernel
theorem dX9_cards_30 : decode cX9_cards 30 = .ok (.ifCond .eq 23, 3) := by decide +kernel
theorem dX9_cards_33 : decode cX9_cards 33 = .ok (.iload 4, 2) := by decide +kernel
theorem dX9_cards_35 : decode cX9_cards 35 = .ok (.iconst 0, 1) := by decide +kernel
theorem dX9_cards_36 : decode cX9_cards 36 = .ok (.iload_n 3, 1) := by decide +kernel
theorem dX9_cards_37 : decode cX9_cards 37 = .ok (.invokestatic 191, 3) := by decide +kernel
theorem dX9_cards_40 : decode cX9_cards 40 = .ok (.ifCond .eq 13, 3) := by decide +kernel
theorem dX9_cards_43 : decode cX9_cards 43 = .ok (.iload 5, 2) := by decide +kernel
theorem dX9_cards_45 : decode cX9_cards 45 = .ok (.iconst 0, 1) := by decide +kernel
theorem dX9_cards_46 : decode cX9_cards 46 = .ok (.iconst 1, 1) := by decide +kernel
theorem dX9_cards_47 : decode cX9_cards 47 = .ok (.invokestatic 191, 3) := by decide +kernel
theorem dX9_cards_50 : decode cX9_cards 50 = .ok (.ifCond .ne 7, 3) := by decide +kernel
theorem dX9_cards_53 : decode cX9_cards 53 = .ok (.ldc2_w 104, 3) := by decide +kernel
theorem dX9_cards_56 : decode cX9_cards 56 = .ok (.lreturn, 1) := by decide +kernel
theorem dX9_cards_57 : decode cX9_cards 57 = .ok (.iload_n 1, 1) := by decide +kernel
theorem dX9_cards_58 : decode cX9_cards 58 = .ok (.iload_n 3, 1) := by decide +kernel
theorem dX9_cards_59 : decode cX9_cards 59 = .ok (.invokestatic 263, 3) := by decide +kernel
theorem dX9_cards_62 : decode cX9_cards 62 = .ok (.lstore 6, 2) := by decide +kernel
theorem dX9_cards_64 : decode cX9_cards 64 = .ok (.iload 5, 2) := by decide +kernel
theorem dX9_cards_66 : decode cX9_cards 66 = .ok (.iconst 1, 1) := by decide +kernel
theorem dX9_cards_67 : decode cX9_cards 67 = .ok (.if_icmp .ne 14, 3) := by decide +kernel
theorem dX9_cards_70 : decode cX9_cards 70 = .ok (.lload 6, 2) := by decide +kernel
theorem dX9_cards_72 : decode cX9_cards 72 = .ok (.iload_n 2, 1) := by decide +kernel
theorem dX9_cards_73 : decode cX9_cards 73 = .ok (.iload_n 3, 1) := by decide +kernel
theorem dX9_cards_74 : decode cX9_cards 74 = .ok (.iadd, 1) := by decide +kernel
theorem dX9_cards_75 : decode cX9_cards 75 = .ok (.iload_n 3, 1) := by decide +kernel
theorem dX9_cards_76 : decode cX9_cards 76 = .ok (.invokestatic 263, 3) := by decide +kernel
theorem dX9_cards_79 : decode cX9_cards 79 = .ok (.lmul, 1) := by decide +kernel
theorem dX9_cards_80 : decode cX9_cards 80 = .ok (.lreturn, 1) := by decide +kernel
theorem dX9_cards_81 : decode cX9_cards 81 = .ok (.lload 6, 2) := by decide +kernel
theorem dX9_cards_83 : decode cX9_cards 83 = .ok (.iload_n 3, 1) := by decide +kernel
theorem dX9_cards_84 : decode cX9_cards 84 = .ok (.iload 4, 2) := by decide +kernel
theorem dX9_cards_86 : decode cX9_cards 86 = .ok (.invokestatic 263, 3) := by decide +kernel
theorem dX9_cards_89 : decode cX9_cards 89 = .ok (.lmul, 1) := by decide +kernel
theorem dX9_cards_90 : decode cX9_cards 90 = .ok (.iload_n 2, 1) := by decide +kernel
theorem dX9_cards_91 : decode cX9_cards 91 = .ok (.iload 4, 2) := by decide +kernel
theorem dX9_cards_93 : decode cX9_cards 93 = .ok (.invokestatic 263, 3) := by decide +kernel
theorem dX9_cards_96 : decode cX9_cards 96 = .ok (.lmul, 1) := by decide +kernel
theorem dX9_cards_97 : decode cX9_cards 97 = .ok (.lreturn, 1) := by decide +kernel
theorem dX9_night_0 : decode cX9_night 0 = .ok (.aload_n 0, 1) := by decide +kernel
theorem dX9_night_1 : decode cX9_night 1 = .ok (.aload_n 0, 1) := by decide +kernel
theorem dX9_night_2 : decode cX9_night 2 = .ok (.iload_n 1, 1) := by decide +kernel
theorem dX9_night_3 : decode cX9_night 3 = .ok (.iload_n 2, 1) := by decide +kernel
theorem dX9_night_4 : decode cX9_night 4 = .ok (.invokevirtual 266, 3) := by decide +kernel
theorem dX9_night_7 : decode cX9_night 7 = .ok (.invokevirtual 79, 3) := by decide +kernel
theorem dX9_night_10 : decode cX9_night 10 = .ok (.ireturn, 1) := by decide +kernel
theorem dX9_passNight_0 : decode cX9_passNight 0 = .ok (.iload_n 1, 1) := by decide +kernel
theorem dX9_passNight_1 : decode cX9_passNight 1 = .ok (.iconst 0, 1) := by decide +kernel
theorem dX9_passNight_2 : decode cX9_passNight 2 = .ok (.ldc_w 269, 3) := by decide +kernel
theorem dX9_passNight_5 : decode cX9_passNight 5 = .ok (.invokestatic 191, 3) := by decide +kernel
theorem dX9_passNight_8 : decode cX9_passNight 8 = .ok (.ifCond .eq 13, 3) := by decide +kernel
theorem dX9_passNight_11 : decode cX9_passNight 11 = .ok (.iload_n 2, 1) := by decide +kernel
theorem dX9_passNight_12 : decode cX9_passNight 12 = .ok (.iconst 1, 1) := by decide +kernel
theorem dX9_passNight_13 : decode cX9_passNight 13 = .ok (.bipush 20, 2) := by decide +kernel
theorem dX9_passNight_15 : decode cX9_passNight 15 = .ok (.invokestatic 191, 3) := by decide +kernel
theorem dX9_passNight_18 : decode cX9_passNight 18 = .ok (.ifCond .ne 5, 3) := by decide +kernel
theorem dX9_passNight_21 : decode cX9_passNight 21 = .ok (.iconst (-1), 1) := by decide +kernel
theorem dX9_passNight_22 : decode cX9_passNight 22 = .ok (.ireturn, 1) := by decide +kernel
theorem dX9_passNight_23 : decode cX9_passNight 23 = .ok (.aload_n 0, 1) := by decide +kernel
theorem dX9_passNight_24 : decode cX9_passNight 24 = .ok (.getfield 60, 3) := by decide +kernel
theorem dX9_passNight_27 : decode cX9_passNight 27 = .ok (.aload_n 0, 1) := by decide +kernel
theorem dX9_passNight_28 : decode cX9_passNight 28 = .ok (.getfield 12, 3) := by decide +kernel
theorem dX9_passNight_31 : decode cX9_passNight 31 = .ok (.getfield 86, 3) := by decide +kernel
theorem dX9_passNight_34 : decode cX9_passNight 34 = .ok (.invokevirtual 270, 3) := by decide +kernel
theorem dX9_passNight_37 : decode cX9_passNight 37 = .ok (.aload_n 0, 1) := by decide +kernel
theorem dX9_passNight_38 : decode cX9_passNight 38 = .ok (.getfield 60, 3) := by decide +kernel
theorem dX9_passNight_41 : decode cX9_passNight 41 = .ok (.getfield 274, 3) := by decide +kernel
theorem dX9_passNight_44 : decode cX9_passNight 44 = .ok (.istore_n 3, 1) := by decide +kernel
theorem dX9_passNight_45 : decode cX9_passNight 45 = .ok (.iload_n 3, 1) := by decide +kernel
theorem dX9_passNight_46 : decode cX9_passNight 46 = .ok (.ifCond .le 13, 3) := by decide +kernel
theorem dX9_passNight_49 : decode cX9_passNight 49 = .ok (.aload_n 0, 1) := by decide +kernel
theorem dX9_passNight_50 : decode cX9_passNight 50 = .ok (.getfield 12, 3) := by decide +kernel
theorem dX9_passNight_53 : decode cX9_passNight 53 = .ok (.getfield 207, 3) := by decide +kernel
theorem dX9_passNight_56 : decode cX9_passNight 56 = .ok (.ifCond .gt 5, 3) := by decide +kernel
theorem dX9_passNight_59 : decode cX9_passNight 59 = .ok (.iconst 0, 1) := by decide +kernel
theorem dX9_passNight_60 : decode cX9_passNight 60 = .ok (.ireturn, 1) := by decide +kernel
theorem dX9_passNight_61 : decode cX9_passNight 61 = .ok (.iconst 0, 1) := by decide +kernel
theorem dX9_passNight_62 : decode cX9_passNight 62 = .ok (.istore 4, 2) := by decide +kernel
theorem dX9_passNight_64 : decode cX9_passNight 64 = .ok (.iload_n 1, 1) := by decide +kernel
theorem dX9_passNight_65 : decode cX9_passNight 65 = .ok (.istore 5, 2) := by decide +kernel
theorem dX9_passNight_67 : decode cX9_passNight 67 = .ok (.iconst 0, 1) := by decide +kernel
theorem dX9_passNight_68 : decode cX9_passNight 68 = .ok (.istore 6, 2) := by decide +kernel
theorem dX9_passNight_70 : decode cX9_passNight 70 = .ok (.iload 6, 2) := by decide +kernel
theorem dX9_passNight_72 : decode cX9_passNight 72 = .ok (.iload_n 2, 1) := by decide +kernel
theorem dX9_passNight_73 : decode cX9_passNight 73 = .ok (.if_icmp .ge 81, 3) := by decide +kernel
theorem dX9_passNight_76 : decode cX9_passNight 76 = .ok (.iload 5, 2) := by decide +kernel
theorem dX9_passNight_78 : decode cX9_passNight 78 = .ok (.invokestatic 277, 3) := by decide +kernel
theorem dX9_passNight_81 : decode cX9_passNight 81 = .ok (.istore 5, 2) := by decide +kernel
theorem dX9_passNight_83 : decode cX9_passNight 83 = .ok (.iload 5, 2) := by decide +kernel
theorem dX9_passNight_85 : decode cX9_passNight 85 = .ok (.iload_n 3, 1) := by decide +kernel
theorem dX9_passNight_86 : decode cX9_passNight 86 = .ok (.irem, 1) := by decide +kernel
theorem dX9_passNight_87 : decode cX9_passNight 87 = .ok (.istore 7, 2) := by decide +kernel
theorem dX9_passNight_89 : decode cX9_passNight 89 = .ok (.iload 5, 2) := by decide +kernel
theorem dX9_passNight_91 : decode cX9_passNight 91 = .ok (.invokestatic 277, 3) := by decide +kernel
theorem dX9_passNight_94 : decode cX9_passNight 94 = .ok (.istore 5, 2) := by decide +kernel
theorem dX9_passNight_96 : decode cX9_passNight 96 = .ok (.iload 5, 2) := by decide +kernel
theorem dX9_passNight_98 : decode cX9_passNight 98 = .ok (.iload_n 3, 1) := by decide +kernel
theorem dX9_passNight_99 : decode cX9_passNight 99 = .ok (.irem, 1) := by decide +kernel
theorem dX9_passNight_100 : decode cX9_passNight 100 = .ok (.istore 8, 2) := by decide +kernel
theorem dX9_passNight_102 : decode cX9_passNight 102 = .ok (.iload 5, 2) := by decide +kernel
theorem dX9_passNight_104 : decode cX9_passNight 104 = .ok (.invokestatic 277, 3) := by decide +kernel
theorem dX9_passNight_107 : decode cX9_passNight 107 = .ok (.istore 5, 2) := by decide +kernel
theorem dX9_passNight_109 : decode cX9_passNight 109 = .ok (.aload_n 0, 1) := by decide +kernel
theorem dX9_passNight_110 : decode cX9_passNight 110 = .ok (.getfield 12, 3) := by decide +kernel
theorem dX9_passNight_113 : decode cX9_passNight 113 = .ok (.getfield 210, 3) := by decide +kernel
theorem dX9_passNight_116 : decode cX9_passNight 116 = .ok (.iload 5, 2) := by decide +kernel
theorem dX9_passNight_118 : decode cX9_passNight 118 = .ok (.aload_n 0, 1) := by decide +kernel
theorem dX9_passNight_119 : decode cX9_passNight 119 = .ok (.getfield 12, 3) := by decide +kernel
theorem dX9_passNight_122 : decode cX9_passNight 122 = .ok (.getfield 207, 3) := by decide +kernel
theorem dX9_passNight_125 : decode cX9_passNight 125 = .ok (.irem, 1) := by decide +kernel
theorem dX9_passNight_126 : decode cX9_passNight 126 = .ok (.iaload, 1) := by decide +kernel
theorem dX9_passNight_127 : decode cX9_passNight 127 = .ok (.istore 9, 2) := by decide +kernel
theorem dX9_passNight_129 : decode cX9_passNight 129 = .ok (.aload_n 0, 1) := by decide +kernel
theorem dX9_passNight_130 : decode cX9_passNight 130 = .ok (.getfield 60, 3) := by decide +kernel
theorem dX9_passNight_133 : decode cX9_passNight 133 = .ok (.iload 7, 2) := by decide +kernel
theorem dX9_passNight_135 : decode cX9_passNight 135 = .ok (.iload 8, 2) := by decide +kernel
theorem dX9_passNight_137 : decode cX9_passNight 137 = .ok (.iload 9, 2) := by decide +kernel
theorem dX9_passNight_139 : decode cX9_passNight 139 = .ok (.invokevirtual 128, 3) := by decide +kernel
theorem dX9_passNight_142 : decode cX9_passNight 142 = .ok (.ifCond .ne 6, 3) := by decide +kernel
theorem dX9_passNight_145 : decode cX9_passNight 145 = .ok (.iinc 4 1, 3) := by decide +kernel
theorem dX9_passNight_148 : decode cX9_passNight 148 = .ok (.iinc 6 1, 3) := by decide +kernel
theorem dX9_passNight_151 : decode cX9_passNight 151 = .ok (.goto (-81), 3) := by decide +kernel
theorem dX9_passNight_154 : decode cX9_passNight 154 = .ok (.iload 4, 2) := by decide +kernel
theorem dX9_passNight_156 : decode cX9_passNight 156 = .ok (.ireturn, 1) := by decide +kernel
theorem dX9_nextDraw_0 : decode cX9_nextDraw 0 = .ok (.iload_n 0, 1) := by decide +kernel
theorem dX9_nextDraw_1 : decode cX9_nextDraw 1 = .ok (.i2l, 1) := by decide +kernel
theorem dX9_nextDraw_2 : decode cX9_nextDraw 2 = .ok (.ldc2_w 280, 3) := by decide +kernel
theorem dX9_nextDraw_5 : decode cX9_nextDraw 5 = .ok (.lmul, 1) := by decide +kernel
theorem dX9_nextDraw_6 : decode cX9_nextDraw 6 = .ok (.ldc2_w 282, 3) := by decide +kernel
theorem dX9_nextDraw_9 : decode cX9_nextDraw 9 = .ok (.ladd, 1) := by decide +kernel
theorem dX9_nextDraw_10 : decode cX9_nextDraw 10 = .ok (.ldc2_w 284, 3) := by decide +kernel
theorem dX9_nextDraw_13 : decode cX9_nextDraw 13 = .ok (.lrem, 1) := by decide +kernel
theorem dX9_nextDraw_14 : decode cX9_nextDraw 14 = .ok (.l2i, 1) := by decide +kernel
theorem dX9_nextDraw_15 : decode cX9_nextDraw 15 = .ok (.ireturn, 1) := by decide +kernel
theorem dX9_drawn_0 : decode cX9_drawn 0 = .ok (.aload_n 0, 1) := by decide +kernel
theorem dX9_drawn_1 : decode cX9_drawn 1 = .ok (.getfield 60, 3) := by decide +kernel
theorem dX9_drawn_4 : decode cX9_drawn 4 = .ok (.iload_n 1, 1) := by decide +kernel
theorem dX9_drawn_5 : decode cX9_drawn 5 = .ok (.invokevirtual 92, 3) := by decide +kernel
theorem dX9_drawn_8 : decode cX9_drawn 8 = .ok (.ifCond .eq 10, 3) := by decide +kernel
theorem dX9_drawn_11 : decode cX9_drawn 11 = .ok (.iload_n 2, 1) := by decide +kernel
theorem dX9_drawn_12 : decode cX9_drawn 12 = .ok (.invokestatic 101, 3) := by decide +kernel
theorem dX9_drawn_15 : decode cX9_drawn 15 = .ok (.ifCond .ne 5, 3) := by decide +kernel
theorem dX9_drawn_18 : decode cX9_drawn 18 = .ok (.iconst (-1), 1) := by decide +kernel
theorem dX9_drawn_19 : decode cX9_drawn 19 = .ok (.ireturn, 1) := by decide +kernel
theorem dX9_drawn_20 : decode cX9_drawn 20 = .ok (.aload_n 0, 1) := by decide +kernel
theorem dX9_drawn_21 : decode cX9_drawn 21 = .ok (.getfield 60, 3) := by decide +kernel
theorem dX9_drawn_24 : decode cX9_drawn 24 = .ok (.iload_n 1, 1) := by decide +kernel
theorem dX9_drawn_25 : decode cX9_drawn 25 = .ok (.iload_n 2, 1) := by decide +kernel
theorem dX9_drawn_26 : decode cX9_drawn 26 = .ok (.invokevirtual 114, 3) := by decide +kernel
theorem dX9_drawn_29 : decode cX9_drawn 29 = .ok (.ireturn, 1) := by decide +kernel
theorem dX9_image_0 : decode cX9_image 0 = .ok (.aload_n 0, 1) := by decide +kernel
theorem dX9_image_1 : decode cX9_image 1 = .ok (.aload_n 0, 1) := by decide +kernel
theorem dX9_image_2 : decode cX9_image 2 = .ok (.iload_n 1, 1) := by decide +kernel
theorem dX9_image_3 : decode cX9_image 3 = .ok (.invokevirtual 286, 3) := by decide +kernel
theorem dX9_image_6 : decode cX9_image 6 = .ok (.invokevirtual 79, 3) := by decide +kernel
theorem dX9_image_9 : decode cX9_image 9 = .ok (.ireturn, 1) := by decide +kernel
theorem dX9_keepImage_0 : decode cX9_keepImage 0 = .ok (.iload_n 1, 1) := by decide +kernel
theorem dX9_keepImage_1 : decode cX9_keepImage 1 = .ok (.ifCond .lt 8, 3) := by decide +kernel
theorem dX9_keepImage_4 : decode cX9_keepImage 4 = .ok (.iload_n 1, 1) := by decide +kernel
theorem dX9_keepImage_5 : decode cX9_keepImage 5 = .ok (.iconst 2, 1) := by decide +kernel
theorem dX9_keepImage_6 : decode cX9_keepImage 6 = .ok (.if_icmp .lt 5, 3) := by decide +kernel
theorem dX9_keepImage_9 : decode cX9_keepImage 9 = .ok (.iconst (-1), 1) := by decide +kernel
theorem dX9_keepImage_10 : decode cX9_keepImage 10 = .ok (.ireturn, 1) := by decide +kernel
theorem dX9_keepImage_11 : decode cX9_keepImage 11 = .ok (.aload_n 0, 1) := by decide +kernel
theorem dX9_keepImage_12 : decode cX9_keepImage 12 = .ok (.getfield 16, 3) := by decide +kernel
theorem dX9_keepImage_15 : decode cX9_keepImage 15 = .ok (.iload_n 1, 1) := by decide +kernel
theorem dX9_keepImage_16 : decode cX9_keepImage 16 = .ok (.aaload, 1) := by decide +kernel
theorem dX9_keepImage_17 : decode cX9_keepImage 17 = .ok (.aload_n 0, 1) := by decide +kernel
theorem dX9_keepImage_18 : decode cX9_keepImage 18 = .ok (.getfield 12, 3) := by decide +kernel
theorem dX9_keepImage_21 : decode cX9_keepImage 21 = .ok (.invokevirtual 289, 3) := by decide +kernel
theorem dX9_keepImage_24 : decode cX9_keepImage 24 = .ok (.aload_n 0, 1) := by decide +kernel
theorem dX9_keepImage_25 : decode cX9_keepImage 25 = .ok (.getfield 20, 3) := by decide +kernel
theorem dX9_keepImage_28 : decode cX9_keepImage 28 = .ok (.iload_n 1, 1) := by decide +kernel
theorem dX9_keepImage_29 : decode cX9_keepImage 29 = .ok (.iconst 1, 1) := by decide +kernel
theorem dX9_keepImage_30 : decode cX9_keepImage 30 = .ok (.bastore, 1) := by decide +kernel
theorem dX9_keepImage_31 : decode cX9_keepImage 31 = .ok (.iconst 0, 1) := by decide +kernel
theorem dX9_keepImage_32 : decode cX9_keepImage 32 = .ok (.ireturn, 1) := by decide +kernel
theorem dX9_back_0 : decode cX9_back 0 = .ok (.aload_n 0, 1) := by decide +kernel
theorem dX9_back_1 : decode cX9_back 1 = .ok (.aload_n 0, 1) := by decide +kernel
theorem dX9_back_2 : decode cX9_back 2 = .ok (.iload_n 1, 1) := by decide +kernel
theorem dX9_back_3 : decode cX9_back 3 = .ok (.invokevirtual 292, 3) := by decide +kernel
theorem dX9_back_6 : decode cX9_back 6 = .ok (.invokevirtual 79, 3) := by decide +kernel
theorem dX9_back_9 : decode cX9_back 9 = .ok (.ireturn, 1) := by decide +kernel
theorem dX9_goBack_0 : decode cX9_goBack 0 = .ok (.iload_n 1, 1) := by decide +kernel
theorem dX9_goBack_1 : decode cX9_goBack 1 = .ok (.ifCond .lt 8, 3) := by decide +kernel
theorem dX9_goBack_4 : decode cX9_goBack 4 = .ok (.iload_n 1, 1) := by decide +kernel
theorem dX9_goBack_5 : decode cX9_goBack 5 = .ok (.iconst 2, 1) := by decide +kernel
theorem dX9_goBack_6 : decode cX9_goBack 6 = .ok (.if_icmp .lt 5, 3) := by decide +kernel
theorem dX9_goBack_9 : decode cX9_goBack 9 = .ok (.iconst (-1), 1) := by decide +kernel
theorem dX9_goBack_10 : decode cX9_goBack 10 = .ok (.ireturn, 1) := by decide +kernel
theorem dX9_goBack_11 : decode cX9_goBack 11 = .ok (.aload_n 0, 1) := by decide +kernel
theorem dX9_goBack_12 : decode cX9_goBack 12 = .ok (.getfield 20, 3) := by decide +kernel
theorem dX9_goBack_15 : decode cX9_goBack 15 = .ok (.iload_n 1, 1) := by decide +kernel
theorem dX9_goBack_16 : decode cX9_goBack 16 = .ok (.baload, 1) := by decide +kernel
theorem dX9_goBack_17 : decode cX9_goBack 17 = .ok (.ifCond .ne 6, 3) := by decide +kernel
theorem dX9_goBack_20 : decode cX9_goBack 20 = .ok (.bipush (-2), 2) := by decide +kernel
theorem dX9_goBack_22 : decode cX9_goBack 22 = .ok (.ireturn, 1) := by decide +kernel
theorem dX9_goBack_23 : decode cX9_goBack 23 = .ok (.aload_n 0, 1) := by decide +kernel
theorem dX9_goBack_24 : decode cX9_goBack 24 = .ok (.getfield 12, 3) := by decide +kernel
theorem dX9_goBack_27 : decode cX9_goBack 27 = .ok (.aload_n 0, 1) := by decide +kernel
theorem dX9_goBack_28 : decode cX9_goBack 28 = .ok (.getfield 16, 3) := by decide +kernel
theorem dX9_goBack_31 : decode cX9_goBack 31 = .ok (.iload_n 1, 1) := by decide +kernel
theorem dX9_goBack_32 : decode cX9_goBack 32 = .ok (.aaload, 1) := by decide +kernel
theorem dX9_goBack_33 : decode cX9_goBack 33 = .ok (.invokevirtual 289, 3) := by decide +kernel
theorem dX9_goBack_36 : decode cX9_goBack 36 = .ok (.iconst 0, 1) := by decide +kernel
theorem dX9_goBack_37 : decode cX9_goBack 37 = .ok (.ireturn, 1) := by decide +kernel
theorem dX9_count_0 : decode cX9_count 0 = .ok (.iload_n 1, 1) := by decide +kernel
theorem dX9_count_1 : decode cX9_count 1 = .ok (.tableswitch 78 0 4 #[35, 46, 54, 62, 70], 35) := by decide +kernel
theorem dX9_count_36 : decode cX9_count 36 = .ok (.aload_n 0, 1) := by decide +kernel
theorem dX9_count_37 : decode cX9_count 37 = .ok (.getfield 12, 3) := by decide +kernel
theorem dX9_count_40 : decode cX9_count 40 = .ok (.getfield 86, 3) := by decide +kernel
theorem dX9_count_43 : decode cX9_count 43 = .ok (.getfield 274, 3) := by decide +kernel
theorem dX9_count_46 : decode cX9_count 46 = .ok (.ireturn, 1) := by decide +kernel
theorem dX9_count_47 : decode cX9_count 47 = .ok (.aload_n 0, 1) := by decide +kernel
theorem dX9_count_48 : decode cX9_count 48 = .ok (.getfield 12, 3) := by decide +kernel
theorem dX9_count_51 : decode cX9_count 51 = .ok (.getfield 207, 3) := by decide +kernel
theorem dX9_count_54 : decode cX9_count 54 = .ok (.ireturn, 1) := by decide +kernel
theorem dX9_count_55 : decode cX9_count 55 = .ok (.aload_n 0, 1) := by decide +kernel
theorem dX9_count_56 : decode cX9_count 56 = .ok (.getfield 12, 3) := by decide +kernel
theorem dX9_count_59 : decode cX9_count 59 = .ok (.getfield 213, 3) := by decide +kernel
theorem dX9_count_62 : decode cX9_count 62 = .ok (.ireturn, 1) := by decide +kernel
theorem dX9_count_63 : decode cX9_count 63 = .ok (.aload_n 0, 1) := by decide +kernel
theorem dX9_count_64 : decode cX9_count 64 = .ok (.getfield 12, 3) := by decide +kernel
theorem dX9_count_67 : decode cX9_count 67 = .ok (.getfield 247, 3) := by decide +kernel
theorem dX9_count_70 : decode cX9_count 70 = .ok (.ireturn, 1) := by decide +kernel
theorem dX9_count_71 : decode cX9_count 71 = .ok (.aload_n 0, 1) := by decide +kernel
theorem dX9_count_72 : decode cX9_count 72 = .ok (.getfield 35, 3) := by decide +kernel
theorem dX9_count_75 : decode cX9_count 75 = .ok (.getfield 147, 3) := by decide +kernel
theorem dX9_count_78 : decode cX9_count 78 = .ok (.ireturn, 1) := by decide +kernel
theorem dX9_count_79 : decode cX9_count 79 = .ok (.iload_n 1, 1) := by decide +kernel
theorem dX9_count_80 : decode cX9_count 80 = .ok (.iconst 5, 1) := by decide +kernel
theorem dX9_count_81 : decode cX9_count 81 = .ok (.if_icmp .lt 18, 3) := by decide +kernel
theorem dX9_count_84 : decode cX9_count 84 = .ok (.iload_n 1, 1) := by decide +kernel
theorem dX9_count_85 : decode cX9_count 85 = .ok (.bipush 10, 2) := by decide +kernel
theorem dX9_count_87 : decode cX9_count 87 = .ok (.if_icmp .ge 12, 3) := by decide +kernel
theorem dX9_count_90 : decode cX9_count 90 = .ok (.aload_n 0, 1) := by decide +kernel
theorem dX9_count_91 : decode cX9_count 91 = .ok (.getfield 64, 3) := by decide +kernel
theorem dX9_count_94 : decode cX9_count 94 = .ok (.iload_n 1, 1) := by decide +kernel
theorem dX9_count_95 : decode cX9_count 95 = .ok (.iconst 5, 1) := by decide +kernel
theorem dX9_count_96 : decode cX9_count 96 = .ok (.isub, 1) := by decide +kernel
theorem dX9_count_97 : decode cX9_count 97 = .ok (.iaload, 1) := by decide +kernel
theorem dX9_count_98 : decode cX9_count 98 = .ok (.ireturn, 1) := by decide +kernel
theorem dX9_count_99 : decode cX9_count 99 = .ok (.iload_n 1, 1) := by decide +kernel
theorem dX9_count_100 : decode cX9_count 100 = .ok (.bipush 10, 2) := by decide +kernel
theorem dX9_count_102 : decode cX9_count 102 = .ok (.if_icmp .lt 30, 3) := by decide +kernel
theorem dX9_count_105 : decode cX9_count 105 = .ok (.iload_n 1, 1) := by decide +kernel
theorem dX9_count_106 : decode cX9_count 106 = .ok (.bipush 10, 2) := by decide +kernel
theorem dX9_count_108 : decode cX9_count 108 = .ok (.aload_n 0, 1) := by decide +kernel
theorem dX9_count_109 : decode cX9_count 109 = .ok (.getfield 12, 3) := by decide +kernel
theorem dX9_count_112 : decode cX9_count 112 = .ok (.getfield 207, 3) := by decide +kernel
theorem dX9_count_115 : decode cX9_count 115 = .ok (.iadd, 1) := by decide +kernel
theorem dX9_count_116 : decode cX9_count 116 = .ok (.if_icmp .ge 16, 3) := by decide +kernel
theorem dX9_count_119 : decode cX9_count 119 = .ok (.aload_n 0, 1) := by decide +kernel
theorem dX9_count_120 : decode cX9_count 120 = .ok (.getfield 12, 3) := by decide +kernel
theorem dX9_count_123 : decode cX9_count 123 = .ok (.getfield 210, 3) := by decide +kernel
theorem dX9_count_126 : decode cX9_count 126 = .ok (.iload_n 1, 1) := by decide +kernel
theorem dX9_count_127 : decode cX9_count 127 = .ok (.bipush 10, 2) := by decide +kernel
theorem dX9_count_129 : decode cX9_count 129 = .ok (.isub, 1) := by decide +kernel
theorem dX9_count_130 : decode cX9_count 130 = .ok (.iaload, 1) := by decide +kernel
theorem dX9_count_131 : decode cX9_count 131 = .ok (.ireturn, 1) := by decide +kernel
theorem dX9_count_132 : decode cX9_count 132 = .ok (.iconst (-1), 1) := by decide +kernel
theorem dX9_count_133 : decode cX9_count 133 = .ok (.ireturn, 1) := by decide +kernel
theorem dX9_status_0 : decode cX9_status 0 = .ok (.aload_n 0, 1) := by decide +kernel
theorem dX9_status_1 : decode cX9_status 1 = .ok (.getfield 295, 3) := by decide +kernel
theorem dX9_status_4 : decode cX9_status 4 = .ok (.ireturn, 1) := by decide +kernel
theorem dX9_answered_0 : decode cX9_answered 0 = .ok (.aload_n 0, 1) := by decide +kernel
theorem dX9_answered_1 : decode cX9_answered 1 = .ok (.iload_n 1, 1) := by decide +kernel
theorem dX9_answered_2 : decode cX9_answered 2 = .ok (.iconst 0, 1) := by decide +kernel
theorem dX9_answered_3 : decode cX9_answered 3 = .ok (.invokestatic 298, 3) := by decide +kernel
theorem dX9_answered_6 : decode cX9_answered 6 = .ok (.putfield 295, 3) := by decide +kernel
theorem dX9_answered_9 : decode cX9_answered 9 = .ok (.aload_n 0, 1) := by decide +kernel
theorem dX9_answered_10 : decode cX9_answered 10 = .ok (.getfield 295, 3) := by decide +kernel
theorem dX9_answered_13 : decode cX9_answered 13 = .ok (.invokestatic 303, 3) := by decide +kernel
theorem dX9_answered_16 : decode cX9_answered 16 = .ok (.istore_n 2, 1) := by decide +kernel
theorem dX9_answered_17 : decode cX9_answered 17 = .ok (.iload_n 2, 1) := by decide +kernel
theorem dX9_answered_18 : decode cX9_answered 18 = .ok (.iconst (-1), 1) := by decide +kernel
theorem dX9_answered_19 : decode cX9_answered 19 = .ok (.if_icmp .eq 13, 3) := by decide +kernel
theorem dX9_answered_22 : decode cX9_answered 22 = .ok (.aload_n 0, 1) := by decide +kernel
theorem dX9_answered_23 : decode cX9_answered 23 = .ok (.getfield 64, 3) := by decide +kernel
theorem dX9_answered_26 : decode cX9_answered 26 = .ok (.iload_n 2, 1) := by decide +kernel
theorem dX9_answered_27 : decode cX9_answered 27 = .ok (.dup2, 1) := by decide +kernel
theorem dX9_answered_28 : decode cX9_answered 28 = .ok (.iaload, 1) := by decide +kernel
theorem dX9_answered_29 : decode cX9_answered 29 = .ok (.iconst 1, 1) := by decide +kernel
theorem dX9_answered_30 : decode cX9_answered 30 = .ok (.iadd, 1) := by decide +kernel
theorem dX9_answered_31 : decode cX9_answered 31 = .ok (.iastore, 1) := by decide +kernel
theorem dX9_answered_32 : decode cX9_answered 32 = .ok (.iload_n 1, 1) := by decide +kernel
theorem dX9_answered_33 : decode cX9_answered 33 = .ok (.ireturn, 1) := by decide +kernel
theorem dX9_refusalPlace_0 : decode cX9_refusalPlace 0 = .ok (.iload_n 0, 1) := by decide +kernel
theorem dX9_refusalPlace_1 : decode cX9_refusalPlace 1 = .ok (.tableswitch 49 (-6) (-1) #[47, 45, 49, 43, 41, 39], 39) := by decide +kernel
theorem dX9_refusalPlace_40 : decode cX9_refusalPlace 40 = .ok (.iconst 0, 1) := by decide +kernel
theorem dX9_refusalPlace_41 : decode cX9_refusalPlace 41 = .ok (.ireturn, 1) := by decide +kernel
theorem dX9_refusalPlace_42 : decode cX9_refusalPlace 42 = .ok (.iconst 1, 1) := by decide +kernel
theorem dX9_refusalPlace_43 : decode cX9_refusalPlace 43 = .ok (.ireturn, 1) := by decide +kernel
theorem dX9_refusalPlace_44 : decode cX9_refusalPlace 44 = .ok (.iconst 2, 1) := by decide +kernel
theorem dX9_refusalPlace_45 : decode cX9_refusalPlace 45 = .ok (.ireturn, 1) := by decide +kernel
theorem dX9_refusalPlace_46 : decode cX9_refusalPlace 46 = .ok (.iconst 3, 1) := by decide +kernel
theorem dX9_refusalPlace_47 : decode cX9_refusalPlace 47 = .ok (.ireturn, 1) := by decide +kernel
theorem dX9_refusalPlace_48 : decode cX9_refusalPlace 48 = .ok (.iconst 4, 1) := by decide +kernel
theorem dX9_refusalPlace_49 : decode cX9_refusalPlace 49 = .ok (.ireturn, 1) := by decide +kernel
theorem dX9_refusalPlace_50 : decode cX9_refusalPlace 50 = .ok (.iconst (-1), 1) := by decide +kernel
theorem dX9_refusalPlace_51 : decode cX9_refusalPlace 51 = .ok (.ireturn, 1) := by decide +kernel
theorem dX9_isWithin_0 : decode cX9_isWithin 0 = .ok (.iload_n 0, 1) := by decide +kernel
theorem dX9_isWithin_1 : decode cX9_isWithin 1 = .ok (.iload_n 1, 1) := by decide +kernel
theorem dX9_isWithin_2 : decode cX9_isWithin 2 = .ok (.if_icmp .lt 12, 3) := by decide +kernel
theorem dX9_isWithin_5 : decode cX9_isWithin 5 = .ok (.iload_n 0, 1) := by decide +kernel
theorem dX9_isWithin_6 : decode cX9_isWithin 6 = .ok (.iload_n 2, 1) := by decide +kernel
theorem dX9_isWithin_7 : decode cX9_isWithin 7 = .ok (.if_icmp .gt 7, 3) := by decide +kernel
theorem dX9_isWithin_10 : decode cX9_isWithin 10 = .ok (.iconst 1, 1) := by decide +kernel
theorem dX9_isWithin_11 : decode cX9_isWithin 11 = .ok (.goto 4, 3) := by decide +kernel
theorem dX9_isWithin_14 : decode cX9_isWithin 14 = .ok (.iconst 0, 1) := by decide +kernel
theorem dX9_isWithin_15 : decode cX9_isWithin 15 = .ok (.ireturn, 1) := by decide +kernel
theorem dX9_isAmount_0 : decode cX9_isAmount 0 = .ok (.iload_n 0, 1) := by decide +kernel
theorem dX9_isAmount_1 : decode cX9_isAmount 1 = .ok (.iconst 1, 1) := by decide +kernel
theorem dX9_isAmount_2 : decode cX9_isAmount 2 = .ok (.bipush 60, 2) := by decide +kernel
theorem dX9_isAmount_4 : decode cX9_isAmount 4 = .ok (.invokestatic 191, 3) := by decide +kernel
theorem dX9_isAmount_7 : decode cX9_isAmount 7 = .ok (.ireturn, 1) := by decide +kernel
theorem dX9_isStuff_0 : decode cX9_isStuff 0 = .ok (.iload_n 0, 1) := by decide +kernel
theorem dX9_isStuff_1 : decode cX9_isStuff 1 = .ok (.iconst 0, 1) := by decide +kernel
theorem dX9_isStuff_2 : decode cX9_isStuff 2 = .ok (.iconst 3, 1) := by decide +kernel
theorem dX9_isStuff_3 : decode cX9_isStuff 3 = .ok (.invokestatic 191, 3) := by decide +kernel
theorem dX9_isStuff_6 : decode cX9_isStuff 6 = .ok (.ireturn, 1) := by decide +kernel
theorem dX9_putTriple_0 : decode cX9_putTriple 0 = .ok (.aload_n 0, 1) := by decide +kernel
theorem dX9_putTriple_1 : decode cX9_putTriple 1 = .ok (.iconst 3, 1) := by decide +kernel
theorem dX9_putTriple_2 : decode cX9_putTriple 2 = .ok (.iload_n 1, 1) := by decide +kernel
theorem dX9_putTriple_3 : decode cX9_putTriple 3 = .ok (.imul, 1) := by decide +kernel
theorem dX9_putTriple_4 : decode cX9_putTriple 4 = .ok (.iload_n 2, 1) := by decide +kernel
theorem dX9_putTriple_5 : decode cX9_putTriple 5 = .ok (.iastore, 1) := by decide +kernel
theorem dX9_putTriple_6 : decode cX9_putTriple 6 = .ok (.aload_n 0, 1) := by decide +kernel
theorem dX9_putTriple_7 : decode cX9_putTriple 7 = .ok (.iconst 3, 1) := by decide +kernel
theorem dX9_putTriple_8 : decode cX9_putTriple 8 = .ok (.iload_n 1, 1) := by decide +kernel
theorem dX9_putTriple_9 : decode cX9_putTriple 9 = .ok (.imul, 1) := by decide +kernel
theorem dX9_putTriple_10 : decode cX9_putTriple 10 = .ok (.iconst 1, 1) := by decide +kernel
theorem dX9_putTriple_11 : decode cX9_putTriple 11 = .ok (.iadd, 1) := by decide +kernel
theorem dX9_putTriple_12 : decode cX9_putTriple 12 = .ok (.iload_n 3, 1) := by decide +kernel
theorem dX9_putTriple_13 : decode cX9_putTriple 13 = .ok (.iastore, 1) := by decide +kernel
theorem dX9_putTriple_14 : decode cX9_putTriple 14 = .ok (.aload_n 0, 1) := by decide +kernel
theorem dX9_putTriple_15 : decode cX9_putTriple 15 = .ok (.iconst 3, 1) := by decide +kernel
theorem dX9_putTriple_16 : decode cX9_putTriple 16 = .ok (.iload_n 1, 1) := by decide +kernel
theorem dX9_putTriple_17 : decode cX9_putTriple 17 = .ok (.imul, 1) := by decide +kernel
theorem dX9_putTriple_18 : decode cX9_putTriple 18 = .ok (.iconst 2, 1) := by decide +kernel
theorem dX9_putTriple_19 : decode cX9_putTriple 19 = .ok (.iadd, 1) := by decide +kernel
theorem dX9_putTriple_20 : decode cX9_putTriple 20 = .ok (.iload 4, 2) := by decide +kernel
theorem dX9_putTriple_22 : decode cX9_putTriple 22 = .ok (.iastore, 1) := by decide +kernel
theorem dX9_putTriple_23 : decode cX9_putTriple 23 = .ok (.return_, 1) := by decide +kernel
theorem dX9_power_0 : decode cX9_power 0 = .ok (.lconst 1, 1) := by decide +kernel
theorem dX9_power_1 : decode cX9_power 1 = .ok (.lstore_n 3, 1) := by decide +kernel
theorem dX9_power_2 : decode cX9_power 2 = .ok (.iconst 0, 1) := by decide +kernel
theorem dX9_power_3 : decode cX9_power 3 = .ok (.istore 5, 2) := by decide +kernel
theorem dX9_power_5 : decode cX9_power 5 = .ok (.iload 5, 2) := by decide +kernel
theorem dX9_power_7 : decode cX9_power 7 = .ok (.iload_n 2, 1) := by decide +kernel
theorem dX9_power_8 : decode cX9_power 8 = .ok (.if_icmp .ge 13, 3) := by decide +kernel
theorem dX9_power_11 : decode cX9_power 11 = .ok (.lload_n 3, 1) := by decide +kernel
theorem dX9_power_12 : decode cX9_power 12 = .ok (.lload_n 0, 1) := by decide +kernel
theorem dX9_power_13 : decode cX9_power 13 = .ok (.lmul, 1) := by decide +kernel
theorem dX9_power_14 : decode cX9_power 14 = .ok (.lstore_n 3, 1) := by decide +kernel
theorem dX9_power_15 : decode cX9_power 15 = .ok (.iinc 5 1, 3) := by decide +kernel
theorem dX9_power_18 : decode cX9_power 18 = .ok (.goto (-13), 3) := by decide +kernel
theorem dX9_power_21 : decode cX9_power 21 = .ok (.lload_n 3, 1) := by decide +kernel
theorem dX9_power_22 : decode cX9_power 22 = .ok (.lreturn, 1) := by decide +kernel
theorem dX9_powerTerm_0 : decode cX9_powerTerm 0 = .ok (.iload_n 0, 1) := by decide +kernel
theorem dX9_powerTerm_1 : decode cX9_powerTerm 1 = .ok (.i2l, 1) := by decide +kernel
theorem dX9_powerTerm_2 : decode cX9_powerTerm 2 = .ok (.iload_n 2, 1) := by decide +kernel
theorem dX9_powerTerm_3 : decode cX9_powerTerm 3 = .ok (.invokestatic 200, 3) := by decide +kernel
theorem dX9_powerTerm_6 : decode cX9_powerTerm 6 = .ok (.iload_n 1, 1) := by decide +kernel
theorem dX9_powerTerm_7 : decode cX9_powerTerm 7 = .ok (.i2l, 1) := by decide +kernel
theorem dX9_powerTerm_8 : decode cX9_powerTerm 8 = .ok (.iload_n 2, 1) := by decide +kernel
theorem dX9_powerTerm_9 : decode cX9_powerTerm 9 = .ok (.invokestatic 200, 3) := by decide +kernel
theorem dX9_powerTerm_12 : decode cX9_powerTerm 12 = .ok (.iload_n 3, 1) := by decide +kernel
theorem dX9_powerTerm_13 : decode cX9_powerTerm 13 = .ok (.invokestatic 240, 3) := by decide +kernel
theorem dX9_powerTerm_16 : decode cX9_powerTerm 16 = .ok (.lreturn, 1) := by decide +kernel
theorem dX9_lowestTerm_0 : decode cX9_lowestTerm 0 = .ok (.lload_n 0, 1) := by decide +kernel
theorem dX9_lowestTerm_1 : decode cX9_lowestTerm 1 = .ok (.lload_n 2, 1) := by decide +kernel
theorem dX9_lowestTerm_2 : decode cX9_lowestTerm 2 = .ok (.invokestatic 306, 3) := by decide +kernel
theorem dX9_lowestTerm_5 : decode cX9_lowestTerm 5 = .ok (.lstore 5, 2) := by decide +kernel
theorem dX9_lowestTerm_7 : decode cX9_lowestTerm 7 = .ok (.lload 5, 2) := by decide +kernel
theorem dX9_lowestTerm_9 : decode cX9_lowestTerm 9 = .ok (.lconst 0, 1) := by decide +kernel
theorem dX9_lowestTerm_10 : decode cX9_lowestTerm 10 = .ok (.lcmp, 1) := by decide +kernel
theorem dX9_lowestTerm_11 : decode cX9_lowestTerm 11 = .ok (.ifCond .le 13, 3) := by decide +kernel
theorem dX9_lowestTerm_14 : decode cX9_lowestTerm 14 = .ok (.iload 4, 2) := by decide +kernel
theorem dX9_lowestTerm_16 : decode cX9_lowestTerm 16 = .ok (.iconst 0, 1) := by decide +kernel
theorem dX9_lowestTerm_17 : decode cX9_lowestTerm 17 = .ok (.iconst 1, 1) := by decide +kernel
theorem dX9_lowestTerm_18 : decode cX9_lowestTerm 18 = .ok (.invokestatic 191, 3) := by decide +kernel
theorem dX9_lowestTerm_21 : decode cX9_lowestTerm 21 = .ok (.ifCond .ne 7, 3) := by decide +kernel
theorem dX9_lowestTerm_24 : decode cX9_lowestTerm 24 = .ok (.ldc2_w 104, 3) := by decide +kernel
theorem dX9_lowestTerm_27 : decode cX9_lowestTerm 27 = .ok (.lreturn, 1) := by decide +kernel
theorem dX9_lowestTerm_28 : decode cX9_lowestTerm 28 = .ok (.iload 4, 2) := by decide +kernel
theorem dX9_lowestTerm_30 : decode cX9_lowestTerm 30 = .ok (.ifCond .ne 10, 3) := by decide +kernel
theorem dX9_lowestTerm_33 : decode cX9_lowestTerm 33 = .ok (.lload_n 0, 1) := by decide +kernel
theorem dX9_lowestTerm_34 : decode cX9_lowestTerm 34 = .ok (.lload 5, 2) := by decide +kernel
theorem dX9_lowestTerm_36 : decode cX9_lowestTerm 36 = .ok (.ldiv, 1) := by decide +kernel
theorem dX9_lowestTerm_37 : decode cX9_lowestTerm 37 = .ok (.goto 7, 3) := by decide +kernel
theorem dX9_lowestTerm_40 : decode cX9_lowestTerm 40 = .ok (.lload_n 2, 1) := by decide +kernel
theorem dX9_lowestTerm_41 : decode cX9_lowestTerm 41 = .ok (.lload 5, 2) := by decide +kernel
theorem dX9_lowestTerm_43 : decode cX9_lowestTerm 43 = .ok (.ldiv, 1) := by decide +kernel
theorem dX9_lowestTerm_44 : decode cX9_lowestTerm 44 = .ok (.lreturn, 1) := by decide +kernel
theorem dX9_commonDivisor_0 : decode cX9_commonDivisor 0 = .ok (.lload_n 0, 1) := by decide +kernel
theorem dX9_commonDivisor_1 : decode cX9_commonDivisor 1 = .ok (.lstore 4, 2) := by decide +kernel
theorem dX9_commonDivisor_3 : decode cX9_commonDivisor 3 = .ok (.lload_n 2, 1) := by decide +kernel
theorem dX9_commonDivisor_4 : decode cX9_commonDivisor 4 = .ok (.lstore 6, 2) := by decide +kernel
theorem dX9_commonDivisor_6 : decode cX9_commonDivisor 6 = .ok (.iconst 0, 1) := by decide +kernel
theorem dX9_commonDivisor_7 : decode cX9_commonDivisor 7 = .ok (.istore 8, 2) := by decide +kernel
theorem dX9_commonDivisor_9 : decode cX9_commonDivisor 9 = .ok (.iload 8, 2) := by decide +kernel
theorem dX9_commonDivisor_11 : decode cX9_commonDivisor 11 = .ok (.sipush 200, 3) := by decide +kernel
theorem dX9_commonDivisor_14 : decode cX9_commonDivisor 14 = .ok (.if_icmp .ge 31, 3) := by decide +kernel
theorem dX9_commonDivisor_17 : decode cX9_commonDivisor 17 = .ok (.lload 6, 2) := by decide +kernel
theorem dX9_commonDivisor_19 : decode cX9_commonDivisor 19 = .ok (.lconst 0, 1) := by decide +kernel
theorem dX9_commonDivisor_20 : decode cX9_commonDivisor 20 = .ok (.lcmp, 1) := by decide +kernel
theorem dX9_commonDivisor_21 : decode cX9_commonDivisor 21 = .ok (.ifCond .eq 24, 3) := by decide +kernel
theorem dX9_commonDivisor_24 : decode cX9_commonDivisor 24 = .ok (.lload 4, 2) := by decide +kernel
theorem dX9_commonDivisor_26 : decode cX9_commonDivisor 26 = .ok (.lload 6, 2) := by decide +kernel
theorem dX9_commonDivisor_28 : decode cX9_commonDivisor 28 = .ok (.lrem, 1) := by decide +kernel
theorem dX9_commonDivisor_29 : decode cX9_commonDivisor 29 = .ok (.lstore 9, 2) := by decide +kernel
theorem dX9_commonDivisor_31 : decode cX9_commonDivisor 31 = .ok (.lload 6, 2) := by decide +kernel
theorem dX9_commonDivisor_33 : decode cX9_commonDivisor 33 = .ok (.lstore 4, 2) := by decide +kernel
theorem dX9_commonDivisor_35 : decode cX9_commonDivisor 35 = .ok (.lload 9, 2) := by decide +kernel
theorem dX9_commonDivisor_37 : decode cX9_commonDivisor 37 = .ok (.lstore 6, 2) := by decide +kernel
theorem dX9_commonDivisor_39 : decode cX9_commonDivisor 39 = .ok (.iinc 8 1, 3) := by decide +kernel
theorem dX9_commonDivisor_42 : decode cX9_commonDivisor 42 = .ok (.goto (-33), 3) := by decide +kernel
theorem dX9_commonDivisor_45 : decode cX9_commonDivisor 45 = .ok (.lload 4, 2) := by decide +kernel
theorem dX9_commonDivisor_47 : decode cX9_commonDivisor 47 = .ok (.lreturn, 1) := by decide +kernel
theorem dX9_choices_0 : decode cX9_choices 0 = .ok (.iload_n 1, 1) := by decide +kernel
theorem dX9_choices_1 : decode cX9_choices 1 = .ok (.iload_n 0, 1) := by decide +kernel
theorem dX9_choices_2 : decode cX9_choices 2 = .ok (.if_icmp .le 5, 3) := by decide +kernel
theorem dX9_choices_5 : decode cX9_choices 5 = .ok (.lconst 0, 1) := by decide +kernel
theorem dX9_choices_6 : decode cX9_choices 6 = .ok (.lreturn, 1) := by decide +kernel
theorem dX9_choices_7 : decode cX9_choices 7 = .ok (.lconst 1, 1) := by decide +kernel
theorem dX9_choices_8 : decode cX9_choices 8 = .ok (.lstore_n 2, 1) := by decide +kernel
theorem dX9_choices_9 : decode cX9_choices 9 = .ok (.iconst 1, 1) := by decide +kernel
theorem dX9_choices_10 : decode cX9_choices 10 = .ok (.istore 4, 2) := by decide +kernel
theorem dX9_choices_12 : decode cX9_choices 12 = .ok (.iload 4, 2) := by decide +kernel
theorem dX9_choices_14 : decode cX9_choices 14 = .ok (.iload_n 1, 1) := by decide +kernel
theorem dX9_choices_15 : decode cX9_choices 15 = .ok (.if_icmp .gt 23, 3) := by decide +kernel
theorem dX9_choices_18 : decode cX9_choices 18 = .ok (.lload_n 2, 1) := by decide +kernel
theorem dX9_choices_19 : decode cX9_choices 19 = .ok (.iload_n 0, 1) := by decide +kernel
theorem dX9_choices_20 : decode cX9_choices 20 = .ok (.iload_n 1, 1) := by decide +kernel
theorem dX9_choices_21 : decode cX9_choices 21 = .ok (.isub, 1) := by decide +kernel
theorem dX9_choices_22 : decode cX9_choices 22 = .ok (.iload 4, 2) := by decide +kernel
theorem dX9_choices_24 : decode cX9_choices 24 = .ok (.iadd, 1) := by decide +kernel
theorem dX9_choices_25 : decode cX9_choices 25 = .ok (.i2l, 1) := by decide +kernel
theorem dX9_choices_26 : decode cX9_choices 26 = .ok (.lmul, 1) := by decide +kernel
theorem dX9_choices_27 : decode cX9_choices 27 = .ok (.iload 4, 2) := by decide +kernel
theorem dX9_choices_29 : decode cX9_choices 29 = .ok (.i2l, 1) := by decide +kernel
theorem dX9_choices_30 : decode cX9_choices 30 = .ok (.ldiv, 1) := by decide +kernel
theorem dX9_choices_31 : decode cX9_choices 31 = .ok (.lstore_n 2, 1) := by decide +kernel
theorem dX9_choices_32 : decode cX9_choices 32 = .ok (.iinc 4 1, 3) := by decide +kernel
theorem dX9_choices_35 : decode cX9_choices 35 = .ok (.goto (-23), 3) := by decide +kernel
theorem dX9_choices_38 : decode cX9_choices 38 = .ok (.lload_n 2, 1) := by decide +kernel
theorem dX9_choices_39 : decode cX9_choices 39 = .ok (.lreturn, 1) := by decide +kernel
