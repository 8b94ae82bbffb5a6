/-! decode rows: written by wip/whole/names.py -/
theorem dCL_init_0 : decode cCL_init 0 = .ok (.aload_n 0, 1) := by decide +kernel
theorem dCL_init_1 : decode cCL_init 1 = .ok (.invokespecial 3, 3) := by decide +kernel
theorem dCL_init_4 : decode cCL_init 4 = .ok (.aload_n 0, 1) := by decide +kernel
theorem dCL_init_5 : decode cCL_init 5 = .ok (.new 9, 3) := by decide +kernel
theorem dCL_init_8 : decode cCL_init 8 = .ok (.dup, 1) := by decide +kernel
theorem dCL_init_9 : decode cCL_init 9 = .ok (.sipush 192, 3) := by decide +kernel
theorem dCL_init_12 : decode cCL_init 12 = .ok (.invokespecial 11, 3) := by decide +kernel
theorem dCL_init_15 : decode cCL_init 15 = .ok (.putfield 14, 3) := by decide +kernel
theorem dCL_init_18 : decode cCL_init 18 = .ok (.aload_n 0, 1) := by decide +kernel
theorem dCL_init_19 : decode cCL_init 19 = .ok (.sipush 192, 3) := by decide +kernel
theorem dCL_init_22 : decode cCL_init 22 = .ok (.newarray .int, 2) := by decide +kernel
theorem dCL_init_24 : decode cCL_init 24 = .ok (.putfield 20, 3) := by decide +kernel
theorem dCL_init_27 : decode cCL_init 27 = .ok (.aload_n 0, 1) := by decide +kernel
theorem dCL_init_28 : decode cCL_init 28 = .ok (.iconst 0, 1) := by decide +kernel
theorem dCL_init_29 : decode cCL_init 29 = .ok (.putfield 24, 3) := by decide +kernel
theorem dCL_init_32 : decode cCL_init 32 = .ok (.aload_n 0, 1) := by decide +kernel
theorem dCL_init_33 : decode cCL_init 33 = .ok (.bipush 10, 2) := by decide +kernel
theorem dCL_init_35 : decode cCL_init 35 = .ok (.newarray .int, 2) := by decide +kernel
theorem dCL_init_37 : decode cCL_init 37 = .ok (.putfield 28, 3) := by decide +kernel
theorem dCL_init_40 : decode cCL_init 40 = .ok (.aload_n 0, 1) := by decide +kernel
theorem dCL_init_41 : decode cCL_init 41 = .ok (.iconst 0, 1) := by decide +kernel
theorem dCL_init_42 : decode cCL_init 42 = .ok (.putfield 31, 3) := by decide +kernel
theorem dCL_init_45 : decode cCL_init 45 = .ok (.aload_n 0, 1) := by decide +kernel
theorem dCL_init_46 : decode cCL_init 46 = .ok (.aload_n 1, 1) := by decide +kernel
theorem dCL_init_47 : decode cCL_init 47 = .ok (.putfield 34, 3) := by decide +kernel
theorem dCL_init_50 : decode cCL_init 50 = .ok (.return_, 1) := by decide +kernel
theorem dCL_start_0 : decode cCL_start 0 = .ok (.aload_n 0, 1) := by decide +kernel
theorem dCL_start_1 : decode cCL_start 1 = .ok (.getfield 14, 3) := by decide +kernel
theorem dCL_start_4 : decode cCL_start 4 = .ok (.invokevirtual 38, 3) := by decide +kernel
theorem dCL_start_7 : decode cCL_start 7 = .ok (.aload_n 0, 1) := by decide +kernel
theorem dCL_start_8 : decode cCL_start 8 = .ok (.getfield 14, 3) := by decide +kernel
theorem dCL_start_11 : decode cCL_start 11 = .ok (.ldc 41, 2) := by decide +kernel
theorem dCL_start_13 : decode cCL_start 13 = .ok (.invokevirtual 42, 3) := by decide +kernel
theorem dCL_start_16 : decode cCL_start 16 = .ok (.pop, 1) := by decide +kernel
theorem dCL_start_17 : decode cCL_start 17 = .ok (.aload_n 0, 1) := by decide +kernel
theorem dCL_start_18 : decode cCL_start 18 = .ok (.getfield 20, 3) := by decide +kernel
theorem dCL_start_21 : decode cCL_start 21 = .ok (.iconst 0, 1) := by decide +kernel
theorem dCL_start_22 : decode cCL_start 22 = .ok (.ldc 41, 2) := by decide +kernel
theorem dCL_start_24 : decode cCL_start 24 = .ok (.iastore, 1) := by decide +kernel
theorem dCL_start_25 : decode cCL_start 25 = .ok (.aload_n 0, 1) := by decide +kernel
theorem dCL_start_26 : decode cCL_start 26 = .ok (.iconst 1, 1) := by decide +kernel
theorem dCL_start_27 : decode cCL_start 27 = .ok (.putfield 24, 3) := by decide +kernel
theorem dCL_start_30 : decode cCL_start 30 = .ok (.aload_n 0, 1) := by decide +kernel
theorem dCL_start_31 : decode cCL_start 31 = .ok (.iconst 0, 1) := by decide +kernel
theorem dCL_start_32 : decode cCL_start 32 = .ok (.putfield 31, 3) := by decide +kernel
theorem dCL_start_35 : decode cCL_start 35 = .ok (.return_, 1) := by decide +kernel
theorem dCL_take_0 : decode cCL_take 0 = .ok (.aload_n 0, 1) := by decide +kernel
theorem dCL_take_1 : decode cCL_take 1 = .ok (.getfield 14, 3) := by decide +kernel
theorem dCL_take_4 : decode cCL_take 4 = .ok (.iload_n 1, 1) := by decide +kernel
theorem dCL_take_5 : decode cCL_take 5 = .ok (.invokevirtual 46, 3) := by decide +kernel
theorem dCL_take_8 : decode cCL_take 8 = .ok (.ifCond .eq 5, 3) := by decide +kernel
theorem dCL_take_11 : decode cCL_take 11 = .ok (.iconst 1, 1) := by decide +kernel
theorem dCL_take_12 : decode cCL_take 12 = .ok (.ireturn, 1) := by decide +kernel
theorem dCL_take_13 : decode cCL_take 13 = .ok (.aload_n 0, 1) := by decide +kernel
theorem dCL_take_14 : decode cCL_take 14 = .ok (.getfield 31, 3) := by decide +kernel
theorem dCL_take_17 : decode cCL_take 17 = .ok (.aload_n 0, 1) := by decide +kernel
theorem dCL_take_18 : decode cCL_take 18 = .ok (.getfield 28, 3) := by decide +kernel
theorem dCL_take_21 : decode cCL_take 21 = .ok (.arraylength, 1) := by decide +kernel
theorem dCL_take_22 : decode cCL_take 22 = .ok (.if_icmp .lt 5, 3) := by decide +kernel
theorem dCL_take_25 : decode cCL_take 25 = .ok (.iconst 0, 1) := by decide +kernel
theorem dCL_take_26 : decode cCL_take 26 = .ok (.ireturn, 1) := by decide +kernel
theorem dCL_take_27 : decode cCL_take 27 = .ok (.aload_n 0, 1) := by decide +kernel
theorem dCL_take_28 : decode cCL_take 28 = .ok (.getfield 28, 3) := by decide +kernel
theorem dCL_take_31 : decode cCL_take 31 = .ok (.aload_n 0, 1) := by decide +kernel
theorem dCL_take_32 : decode cCL_take 32 = .ok (.getfield 31, 3) := by decide +kernel
theorem dCL_take_35 : decode cCL_take 35 = .ok (.iload_n 1, 1) := by decide +kernel
theorem dCL_take_36 : decode cCL_take 36 = .ok (.iastore, 1) := by decide +kernel
theorem dCL_take_37 : decode cCL_take 37 = .ok (.aload_n 0, 1) := by decide +kernel
theorem dCL_take_38 : decode cCL_take 38 = .ok (.dup, 1) := by decide +kernel
theorem dCL_take_39 : decode cCL_take 39 = .ok (.getfield 31, 3) := by decide +kernel
theorem dCL_take_42 : decode cCL_take 42 = .ok (.iconst 1, 1) := by decide +kernel
theorem dCL_take_43 : decode cCL_take 43 = .ok (.iadd, 1) := by decide +kernel
theorem dCL_take_44 : decode cCL_take 44 = .ok (.putfield 31, 3) := by decide +kernel
theorem dCL_take_47 : decode cCL_take 47 = .ok (.aload_n 0, 1) := by decide +kernel
theorem dCL_take_48 : decode cCL_take 48 = .ok (.getfield 24, 3) := by decide +kernel
theorem dCL_take_51 : decode cCL_take 51 = .ok (.iconst 1, 1) := by decide +kernel
theorem dCL_take_52 : decode cCL_take 52 = .ok (.invokestatic 49, 3) := by decide +kernel
theorem dCL_take_55 : decode cCL_take 55 = .ok (.istore_n 2, 1) := by decide +kernel
theorem dCL_take_56 : decode cCL_take 56 = .ok (.aload_n 0, 1) := by decide +kernel
theorem dCL_take_57 : decode cCL_take 57 = .ok (.iload_n 1, 1) := by decide +kernel
theorem dCL_take_58 : decode cCL_take 58 = .ok (.iload_n 2, 1) := by decide +kernel
theorem dCL_take_59 : decode cCL_take 59 = .ok (.invokevirtual 55, 3) := by decide +kernel
theorem dCL_take_62 : decode cCL_take 62 = .ok (.ifCond .ne 5, 3) := by decide +kernel
theorem dCL_take_65 : decode cCL_take 65 = .ok (.iconst 0, 1) := by decide +kernel
theorem dCL_take_66 : decode cCL_take 66 = .ok (.ireturn, 1) := by decide +kernel
theorem dCL_take_67 : decode cCL_take 67 = .ok (.iload_n 2, 1) := by decide +kernel
theorem dCL_take_68 : decode cCL_take 68 = .ok (.istore_n 3, 1) := by decide +kernel
theorem dCL_take_69 : decode cCL_take 69 = .ok (.iload_n 3, 1) := by decide +kernel
theorem dCL_take_70 : decode cCL_take 70 = .ok (.aload_n 0, 1) := by decide +kernel
theorem dCL_take_71 : decode cCL_take 71 = .ok (.getfield 24, 3) := by decide +kernel
theorem dCL_take_74 : decode cCL_take 74 = .ok (.if_icmp .ge 86, 3) := by decide +kernel
theorem dCL_take_77 : decode cCL_take 77 = .ok (.iload_n 3, 1) := by decide +kernel
theorem dCL_take_78 : decode cCL_take 78 = .ok (.sipush 192, 3) := by decide +kernel
theorem dCL_take_81 : decode cCL_take 81 = .ok (.if_icmp .ge 79, 3) := by decide +kernel
theorem dCL_take_84 : decode cCL_take 84 = .ok (.iconst 0, 1) := by decide +kernel
theorem dCL_take_85 : decode cCL_take 85 = .ok (.istore 4, 2) := by decide +kernel
theorem dCL_take_87 : decode cCL_take 87 = .ok (.iload 4, 2) := by decide +kernel
theorem dCL_take_89 : decode cCL_take 89 = .ok (.aload_n 0, 1) := by decide +kernel
theorem dCL_take_90 : decode cCL_take 90 = .ok (.getfield 31, 3) := by decide +kernel
theorem dCL_take_93 : decode cCL_take 93 = .ok (.if_icmp .ge 60, 3) := by decide +kernel
theorem dCL_take_96 : decode cCL_take 96 = .ok (.aload_n 0, 1) := by decide +kernel
theorem dCL_take_97 : decode cCL_take 97 = .ok (.getfield 34, 3) := by decide +kernel
theorem dCL_take_100 : decode cCL_take 100 = .ok (.aload_n 0, 1) := by decide +kernel
theorem dCL_take_101 : decode cCL_take 101 = .ok (.getfield 20, 3) := by decide +kernel
theorem dCL_take_104 : decode cCL_take 104 = .ok (.iload_n 3, 1) := by decide +kernel
theorem dCL_take_105 : decode cCL_take 105 = .ok (.iaload, 1) := by decide +kernel
theorem dCL_take_106 : decode cCL_take 106 = .ok (.aload_n 0, 1) := by decide +kernel
theorem dCL_take_107 : decode cCL_take 107 = .ok (.iload 4, 2) := by decide +kernel
theorem dCL_take_109 : decode cCL_take 109 = .ok (.invokevirtual 59, 3) := by decide +kernel
theorem dCL_take_112 : decode cCL_take 112 = .ok (.invokevirtual 63, 3) := by decide +kernel
theorem dCL_take_115 : decode cCL_take 115 = .ok (.istore 5, 2) := by decide +kernel
theorem dCL_take_117 : decode cCL_take 117 = .ok (.iload 5, 2) := by decide +kernel
theorem dCL_take_119 : decode cCL_take 119 = .ok (.iconst (-1), 1) := by decide +kernel
theorem dCL_take_120 : decode cCL_take 120 = .ok (.if_icmp .eq 25, 3) := by decide +kernel
theorem dCL_take_123 : decode cCL_take 123 = .ok (.aload_n 0, 1) := by decide +kernel
theorem dCL_take_124 : decode cCL_take 124 = .ok (.getfield 14, 3) := by decide +kernel
theorem dCL_take_127 : decode cCL_take 127 = .ok (.iload 5, 2) := by decide +kernel
theorem dCL_take_129 : decode cCL_take 129 = .ok (.invokevirtual 46, 3) := by decide +kernel
theorem dCL_take_132 : decode cCL_take 132 = .ok (.ifCond .ne 15, 3) := by decide +kernel
theorem dCL_take_135 : decode cCL_take 135 = .ok (.aload_n 0, 1) := by decide +kernel
theorem dCL_take_136 : decode cCL_take 136 = .ok (.iload 5, 2) := by decide +kernel
theorem dCL_take_138 : decode cCL_take 138 = .ok (.iload_n 2, 1) := by decide +kernel
theorem dCL_take_139 : decode cCL_take 139 = .ok (.invokevirtual 55, 3) := by decide +kernel
theorem dCL_take_142 : decode cCL_take 142 = .ok (.ifCond .ne 5, 3) := by decide +kernel
theorem dCL_take_145 : decode cCL_take 145 = .ok (.iconst 0, 1) := by decide +kernel
theorem dCL_take_146 : decode cCL_take 146 = .ok (.ireturn, 1) := by decide +kernel
theorem dCL_take_147 : decode cCL_take 147 = .ok (.iinc 4 1, 3) := by decide +kernel
theorem dCL_take_150 : decode cCL_take 150 = .ok (.goto (-63), 3) := by decide +kernel
theorem dCL_take_153 : decode cCL_take 153 = .ok (.iload_n 3, 1) := by decide +kernel
theorem dCL_take_154 : decode cCL_take 154 = .ok (.iload_n 2, 1) := by decide +kernel
theorem dCL_take_155 : decode cCL_take 155 = .ok (.iadd, 1) := by decide +kernel
theorem dCL_take_156 : decode cCL_take 156 = .ok (.istore_n 3, 1) := by decide +kernel
theorem dCL_take_157 : decode cCL_take 157 = .ok (.goto (-88), 3) := by decide +kernel
theorem dCL_take_160 : decode cCL_take 160 = .ok (.iconst 1, 1) := by decide +kernel
theorem dCL_take_161 : decode cCL_take 161 = .ok (.ireturn, 1) := by decide +kernel
theorem dCL_addCoset_0 : decode cCL_addCoset 0 = .ok (.iconst 0, 1) := by decide +kernel
theorem dCL_addCoset_1 : decode cCL_addCoset 1 = .ok (.istore_n 3, 1) := by decide +kernel
theorem dCL_addCoset_2 : decode cCL_addCoset 2 = .ok (.iload_n 3, 1) := by decide +kernel
theorem dCL_addCoset_3 : decode cCL_addCoset 3 = .ok (.iload_n 2, 1) := by decide +kernel
theorem dCL_addCoset_4 : decode cCL_addCoset 4 = .ok (.if_icmp .ge 87, 3) := by decide +kernel
theorem dCL_addCoset_7 : decode cCL_addCoset 7 = .ok (.iload_n 3, 1) := by decide +kernel
theorem dCL_addCoset_8 : decode cCL_addCoset 8 = .ok (.aload_n 0, 1) := by decide +kernel
theorem dCL_addCoset_9 : decode cCL_addCoset 9 = .ok (.getfield 20, 3) := by decide +kernel
theorem dCL_addCoset_12 : decode cCL_addCoset 12 = .ok (.arraylength, 1) := by decide +kernel
theorem dCL_addCoset_13 : decode cCL_addCoset 13 = .ok (.if_icmp .ge 78, 3) := by decide +kernel
theorem dCL_addCoset_16 : decode cCL_addCoset 16 = .ok (.aload_n 0, 1) := by decide +kernel
theorem dCL_addCoset_17 : decode cCL_addCoset 17 = .ok (.getfield 34, 3) := by decide +kernel
theorem dCL_addCoset_20 : decode cCL_addCoset 20 = .ok (.aload_n 0, 1) := by decide +kernel
theorem dCL_addCoset_21 : decode cCL_addCoset 21 = .ok (.getfield 20, 3) := by decide +kernel
theorem dCL_addCoset_24 : decode cCL_addCoset 24 = .ok (.iload_n 3, 1) := by decide +kernel
theorem dCL_addCoset_25 : decode cCL_addCoset 25 = .ok (.iaload, 1) := by decide +kernel
theorem dCL_addCoset_26 : decode cCL_addCoset 26 = .ok (.iload_n 1, 1) := by decide +kernel
theorem dCL_addCoset_27 : decode cCL_addCoset 27 = .ok (.invokevirtual 63, 3) := by decide +kernel
theorem dCL_addCoset_30 : decode cCL_addCoset 30 = .ok (.istore 4, 2) := by decide +kernel
theorem dCL_addCoset_32 : decode cCL_addCoset 32 = .ok (.iload 4, 2) := by decide +kernel
theorem dCL_addCoset_34 : decode cCL_addCoset 34 = .ok (.iconst (-1), 1) := by decide +kernel
theorem dCL_addCoset_35 : decode cCL_addCoset 35 = .ok (.if_icmp .eq 27, 3) := by decide +kernel
theorem dCL_addCoset_38 : decode cCL_addCoset 38 = .ok (.aload_n 0, 1) := by decide +kernel
theorem dCL_addCoset_39 : decode cCL_addCoset 39 = .ok (.getfield 24, 3) := by decide +kernel
theorem dCL_addCoset_42 : decode cCL_addCoset 42 = .ok (.aload_n 0, 1) := by decide +kernel
theorem dCL_addCoset_43 : decode cCL_addCoset 43 = .ok (.getfield 20, 3) := by decide +kernel
theorem dCL_addCoset_46 : decode cCL_addCoset 46 = .ok (.arraylength, 1) := by decide +kernel
theorem dCL_addCoset_47 : decode cCL_addCoset 47 = .ok (.if_icmp .ge 15, 3) := by decide +kernel
theorem dCL_addCoset_50 : decode cCL_addCoset 50 = .ok (.aload_n 0, 1) := by decide +kernel
theorem dCL_addCoset_51 : decode cCL_addCoset 51 = .ok (.getfield 14, 3) := by decide +kernel
theorem dCL_addCoset_54 : decode cCL_addCoset 54 = .ok (.iload 4, 2) := by decide +kernel
theorem dCL_addCoset_56 : decode cCL_addCoset 56 = .ok (.invokevirtual 42, 3) := by decide +kernel
theorem dCL_addCoset_59 : decode cCL_addCoset 59 = .ok (.ifCond .ne 5, 3) := by decide +kernel
theorem dCL_addCoset_62 : decode cCL_addCoset 62 = .ok (.iconst 0, 1) := by decide +kernel
theorem dCL_addCoset_63 : decode cCL_addCoset 63 = .ok (.ireturn, 1) := by decide +kernel
theorem dCL_addCoset_64 : decode cCL_addCoset 64 = .ok (.aload_n 0, 1) := by decide +kernel
theorem dCL_addCoset_65 : decode cCL_addCoset 65 = .ok (.getfield 20, 3) := by decide +kernel
theorem dCL_addCoset_68 : decode cCL_addCoset 68 = .ok (.aload_n 0, 1) := by decide +kernel
theorem dCL_addCoset_69 : decode cCL_addCoset 69 = .ok (.getfield 24, 3) := by decide +kernel
theorem dCL_addCoset_72 : decode cCL_addCoset 72 = .ok (.iload 4, 2) := by decide +kernel
theorem dCL_addCoset_74 : decode cCL_addCoset 74 = .ok (.iastore, 1) := by decide +kernel
theorem dCL_addCoset_75 : decode cCL_addCoset 75 = .ok (.aload_n 0, 1) := by decide +kernel
theorem dCL_addCoset_76 : decode cCL_addCoset 76 = .ok (.dup, 1) := by decide +kernel
theorem dCL_addCoset_77 : decode cCL_addCoset 77 = .ok (.getfield 24, 3) := by decide +kernel
theorem dCL_addCoset_80 : decode cCL_addCoset 80 = .ok (.iconst 1, 1) := by decide +kernel
theorem dCL_addCoset_81 : decode cCL_addCoset 81 = .ok (.iadd, 1) := by decide +kernel
theorem dCL_addCoset_82 : decode cCL_addCoset 82 = .ok (.putfield 24, 3) := by decide +kernel
theorem dCL_addCoset_85 : decode cCL_addCoset 85 = .ok (.iinc 3 1, 3) := by decide +kernel
theorem dCL_addCoset_88 : decode cCL_addCoset 88 = .ok (.goto (-86), 3) := by decide +kernel
theorem dCL_addCoset_91 : decode cCL_addCoset 91 = .ok (.iconst 1, 1) := by decide +kernel
theorem dCL_addCoset_92 : decode cCL_addCoset 92 = .ok (.ireturn, 1) := by decide +kernel
theorem dCL_generator_0 : decode cCL_generator 0 = .ok (.iload_n 1, 1) := by decide +kernel
theorem dCL_generator_1 : decode cCL_generator 1 = .ok (.ifCond .lt 29, 3) := by decide +kernel
theorem dCL_generator_4 : decode cCL_generator 4 = .ok (.iload_n 1, 1) := by decide +kernel
theorem dCL_generator_5 : decode cCL_generator 5 = .ok (.aload_n 0, 1) := by decide +kernel
theorem dCL_generator_6 : decode cCL_generator 6 = .ok (.getfield 31, 3) := by decide +kernel
theorem dCL_generator_9 : decode cCL_generator 9 = .ok (.if_icmp .ge 21, 3) := by decide +kernel
theorem dCL_generator_12 : decode cCL_generator 12 = .ok (.iload_n 1, 1) := by decide +kernel
theorem dCL_generator_13 : decode cCL_generator 13 = .ok (.aload_n 0, 1) := by decide +kernel
theorem dCL_generator_14 : decode cCL_generator 14 = .ok (.getfield 28, 3) := by decide +kernel
theorem dCL_generator_17 : decode cCL_generator 17 = .ok (.arraylength, 1) := by decide +kernel
theorem dCL_generator_18 : decode cCL_generator 18 = .ok (.if_icmp .ge 12, 3) := by decide +kernel
theorem dCL_generator_21 : decode cCL_generator 21 = .ok (.aload_n 0, 1) := by decide +kernel
theorem dCL_generator_22 : decode cCL_generator 22 = .ok (.getfield 28, 3) := by decide +kernel
theorem dCL_generator_25 : decode cCL_generator 25 = .ok (.iload_n 1, 1) := by decide +kernel
theorem dCL_generator_26 : decode cCL_generator 26 = .ok (.iaload, 1) := by decide +kernel
theorem dCL_generator_27 : decode cCL_generator 27 = .ok (.goto 4, 3) := by decide +kernel
theorem dCL_generator_30 : decode cCL_generator 30 = .ok (.iconst (-1), 1) := by decide +kernel
theorem dCL_generator_31 : decode cCL_generator 31 = .ok (.ireturn, 1) := by decide +kernel
theorem dCL_found_0 : decode cCL_found 0 = .ok (.aload_n 0, 1) := by decide +kernel
theorem dCL_found_1 : decode cCL_found 1 = .ok (.getfield 14, 3) := by decide +kernel
theorem dCL_found_4 : decode cCL_found 4 = .ok (.areturn, 1) := by decide +kernel
theorem dCL_generatorCount_0 : decode cCL_generatorCount 0 = .ok (.aload_n 0, 1) := by decide +kernel
theorem dCL_generatorCount_1 : decode cCL_generatorCount 1 = .ok (.getfield 31, 3) := by decide +kernel
theorem dCL_generatorCount_4 : decode cCL_generatorCount 4 = .ok (.ireturn, 1) := by decide +kernel
