/-! decode rows: written by wip/whole/names.py -/
theorem dMO_init_0 : decode cMO_init 0 = .ok (.aload_n 0, 1) := by decide +kernel
theorem dMO_init_1 : decode cMO_init 1 = .ok (.invokespecial 1, 3) := by decide +kernel
theorem dMO_init_4 : decode cMO_init 4 = .ok (.aload_n 0, 1) := by decide +kernel
theorem dMO_init_5 : decode cMO_init 5 = .ok (.bipush 9, 2) := by decide +kernel
theorem dMO_init_7 : decode cMO_init 7 = .ok (.newarray .int, 2) := by decide +kernel
theorem dMO_init_9 : decode cMO_init 9 = .ok (.putfield 7, 3) := by decide +kernel
theorem dMO_init_12 : decode cMO_init 12 = .ok (.aload_n 0, 1) := by decide +kernel
theorem dMO_init_13 : decode cMO_init 13 = .ok (.iconst 3, 1) := by decide +kernel
theorem dMO_init_14 : decode cMO_init 14 = .ok (.newarray .int, 2) := by decide +kernel
theorem dMO_init_16 : decode cMO_init 16 = .ok (.putfield 13, 3) := by decide +kernel
theorem dMO_init_19 : decode cMO_init 19 = .ok (.aload_n 0, 1) := by decide +kernel
theorem dMO_init_20 : decode cMO_init 20 = .ok (.bipush 9, 2) := by decide +kernel
theorem dMO_init_22 : decode cMO_init 22 = .ok (.newarray .int, 2) := by decide +kernel
theorem dMO_init_24 : decode cMO_init 24 = .ok (.putfield 16, 3) := by decide +kernel
theorem dMO_init_27 : decode cMO_init 27 = .ok (.aload_n 0, 1) := by decide +kernel
theorem dMO_init_28 : decode cMO_init 28 = .ok (.iconst 3, 1) := by decide +kernel
theorem dMO_init_29 : decode cMO_init 29 = .ok (.newarray .int, 2) := by decide +kernel
theorem dMO_init_31 : decode cMO_init 31 = .ok (.putfield 19, 3) := by decide +kernel
theorem dMO_init_34 : decode cMO_init 34 = .ok (.aload_n 0, 1) := by decide +kernel
theorem dMO_init_35 : decode cMO_init 35 = .ok (.bipush 10, 2) := by decide +kernel
theorem dMO_init_37 : decode cMO_init 37 = .ok (.newarray .int, 2) := by decide +kernel
theorem dMO_init_39 : decode cMO_init 39 = .ok (.putfield 22, 3) := by decide +kernel
theorem dMO_init_42 : decode cMO_init 42 = .ok (.aload_n 0, 1) := by decide +kernel
theorem dMO_init_43 : decode cMO_init 43 = .ok (.sipush 7680, 3) := by decide +kernel
theorem dMO_init_46 : decode cMO_init 46 = .ok (.newarray .int, 2) := by decide +kernel
theorem dMO_init_48 : decode cMO_init 48 = .ok (.putfield 25, 3) := by decide +kernel
theorem dMO_init_51 : decode cMO_init 51 = .ok (.aload_n 0, 1) := by decide +kernel
theorem dMO_init_52 : decode cMO_init 52 = .ok (.bipush 40, 2) := by decide +kernel
theorem dMO_init_54 : decode cMO_init 54 = .ok (.newarray .int, 2) := by decide +kernel
theorem dMO_init_56 : decode cMO_init 56 = .ok (.putfield 28, 3) := by decide +kernel
theorem dMO_init_59 : decode cMO_init 59 = .ok (.aload_n 0, 1) := by decide +kernel
theorem dMO_init_60 : decode cMO_init 60 = .ok (.sipush 200, 3) := by decide +kernel
theorem dMO_init_63 : decode cMO_init 63 = .ok (.newarray .int, 2) := by decide +kernel
theorem dMO_init_65 : decode cMO_init 65 = .ok (.putfield 31, 3) := by decide +kernel
theorem dMO_init_68 : decode cMO_init 68 = .ok (.aload_n 0, 1) := by decide +kernel
theorem dMO_init_69 : decode cMO_init 69 = .ok (.bipush 40, 2) := by decide +kernel
theorem dMO_init_71 : decode cMO_init 71 = .ok (.newarray .int, 2) := by decide +kernel
theorem dMO_init_73 : decode cMO_init 73 = .ok (.putfield 34, 3) := by decide +kernel
theorem dMO_init_76 : decode cMO_init 76 = .ok (.aload_n 0, 1) := by decide +kernel
theorem dMO_init_77 : decode cMO_init 77 = .ok (.sipush 7680, 3) := by decide +kernel
theorem dMO_init_80 : decode cMO_init 80 = .ok (.newarray .int, 2) := by decide +kernel
theorem dMO_init_82 : decode cMO_init 82 = .ok (.putfield 37, 3) := by decide +kernel
theorem dMO_init_85 : decode cMO_init 85 = .ok (.aload_n 0, 1) := by decide +kernel
theorem dMO_init_86 : decode cMO_init 86 = .ok (.bipush 40, 2) := by decide +kernel
theorem dMO_init_88 : decode cMO_init 88 = .ok (.newarray .int, 2) := by decide +kernel
theorem dMO_init_90 : decode cMO_init 90 = .ok (.putfield 40, 3) := by decide +kernel
theorem dMO_init_93 : decode cMO_init 93 = .ok (.aload_n 0, 1) := by decide +kernel
theorem dMO_init_94 : decode cMO_init 94 = .ok (.bipush 40, 2) := by decide +kernel
theorem dMO_init_96 : decode cMO_init 96 = .ok (.newarray .boolean, 2) := by decide +kernel
theorem dMO_init_98 : decode cMO_init 98 = .ok (.putfield 43, 3) := by decide +kernel
theorem dMO_init_101 : decode cMO_init 101 = .ok (.aload_n 0, 1) := by decide +kernel
theorem dMO_init_102 : decode cMO_init 102 = .ok (.sipush 15360, 3) := by decide +kernel
theorem dMO_init_105 : decode cMO_init 105 = .ok (.newarray .long, 2) := by decide +kernel
theorem dMO_init_107 : decode cMO_init 107 = .ok (.putfield 47, 3) := by decide +kernel
theorem dMO_init_110 : decode cMO_init 110 = .ok (.aload_n 0, 1) := by decide +kernel
theorem dMO_init_111 : decode cMO_init 111 = .ok (.ldc 51, 2) := by decide +kernel
theorem dMO_init_113 : decode cMO_init 113 = .ok (.newarray .int, 2) := by decide +kernel
theorem dMO_init_115 : decode cMO_init 115 = .ok (.putfield 52, 3) := by decide +kernel
theorem dMO_init_118 : decode cMO_init 118 = .ok (.aload_n 0, 1) := by decide +kernel
theorem dMO_init_119 : decode cMO_init 119 = .ok (.sipush 200, 3) := by decide +kernel
theorem dMO_init_122 : decode cMO_init 122 = .ok (.newarray .int, 2) := by decide +kernel
theorem dMO_init_124 : decode cMO_init 124 = .ok (.putfield 55, 3) := by decide +kernel
theorem dMO_init_127 : decode cMO_init 127 = .ok (.aload_n 0, 1) := by decide +kernel
theorem dMO_init_128 : decode cMO_init 128 = .ok (.bipush 16, 2) := by decide +kernel
theorem dMO_init_130 : decode cMO_init 130 = .ok (.newarray .int, 2) := by decide +kernel
theorem dMO_init_132 : decode cMO_init 132 = .ok (.putfield 58, 3) := by decide +kernel
theorem dMO_init_135 : decode cMO_init 135 = .ok (.aload_n 0, 1) := by decide +kernel
theorem dMO_init_136 : decode cMO_init 136 = .ok (.sipush 200, 3) := by decide +kernel
theorem dMO_init_139 : decode cMO_init 139 = .ok (.newarray .int, 2) := by decide +kernel
theorem dMO_init_141 : decode cMO_init 141 = .ok (.putfield 61, 3) := by decide +kernel
theorem dMO_init_144 : decode cMO_init 144 = .ok (.aload_n 0, 1) := by decide +kernel
theorem dMO_init_145 : decode cMO_init 145 = .ok (.bipush 13, 2) := by decide +kernel
theorem dMO_init_147 : decode cMO_init 147 = .ok (.newarray .int, 2) := by decide +kernel
theorem dMO_init_149 : decode cMO_init 149 = .ok (.putfield 64, 3) := by decide +kernel
theorem dMO_init_152 : decode cMO_init 152 = .ok (.aload_n 0, 1) := by decide +kernel
theorem dMO_init_153 : decode cMO_init 153 = .ok (.sipush 200, 3) := by decide +kernel
theorem dMO_init_156 : decode cMO_init 156 = .ok (.newarray .int, 2) := by decide +kernel
theorem dMO_init_158 : decode cMO_init 158 = .ok (.putfield 67, 3) := by decide +kernel
theorem dMO_init_161 : decode cMO_init 161 = .ok (.aload_n 0, 1) := by decide +kernel
theorem dMO_init_162 : decode cMO_init 162 = .ok (.bipush 9, 2) := by decide +kernel
theorem dMO_init_164 : decode cMO_init 164 = .ok (.newarray .int, 2) := by decide +kernel
theorem dMO_init_166 : decode cMO_init 166 = .ok (.putfield 70, 3) := by decide +kernel
theorem dMO_init_169 : decode cMO_init 169 = .ok (.aload_n 0, 1) := by decide +kernel
theorem dMO_init_170 : decode cMO_init 170 = .ok (.iconst 3, 1) := by decide +kernel
theorem dMO_init_171 : decode cMO_init 171 = .ok (.newarray .int, 2) := by decide +kernel
theorem dMO_init_173 : decode cMO_init 173 = .ok (.putfield 73, 3) := by decide +kernel
theorem dMO_init_176 : decode cMO_init 176 = .ok (.return_, 1) := by decide +kernel
theorem dMO_choose_0 : decode cMO_choose 0 = .ok (.aload_n 0, 1) := by decide +kernel
theorem dMO_choose_1 : decode cMO_choose 1 = .ok (.getfield 92, 3) := by decide +kernel
theorem dMO_choose_4 : decode cMO_choose 4 = .ok (.bipush 10, 2) := by decide +kernel
theorem dMO_choose_6 : decode cMO_choose 6 = .ok (.if_icmp .eq 25, 3) := by decide +kernel
theorem dMO_choose_9 : decode cMO_choose 9 = .ok (.iload_n 1, 1) := by decide +kernel
theorem dMO_choose_10 : decode cMO_choose 10 = .ok (.ifCond .lt 21, 3) := by decide +kernel
theorem dMO_choose_13 : decode cMO_choose 13 = .ok (.iload_n 1, 1) := by decide +kernel
theorem dMO_choose_14 : decode cMO_choose 14 = .ok (.sipush 19683, 3) := by decide +kernel
theorem dMO_choose_17 : decode cMO_choose 17 = .ok (.if_icmp .ge 14, 3) := by decide +kernel
theorem dMO_choose_20 : decode cMO_choose 20 = .ok (.iload_n 2, 1) := by decide +kernel
theorem dMO_choose_21 : decode cMO_choose 21 = .ok (.ifCond .lt 10, 3) := by decide +kernel
theorem dMO_choose_24 : decode cMO_choose 24 = .ok (.iload_n 2, 1) := by decide +kernel
theorem dMO_choose_25 : decode cMO_choose 25 = .ok (.sipush 13824, 3) := by decide +kernel
theorem dMO_choose_28 : decode cMO_choose 28 = .ok (.if_icmp .lt 5, 3) := by decide +kernel
theorem dMO_choose_31 : decode cMO_choose 31 = .ok (.iconst (-1), 1) := by decide +kernel
theorem dMO_choose_32 : decode cMO_choose 32 = .ok (.ireturn, 1) := by decide +kernel
theorem dMO_choose_33 : decode cMO_choose 33 = .ok (.sipush 13824, 3) := by decide +kernel
theorem dMO_choose_36 : decode cMO_choose 36 = .ok (.iload_n 1, 1) := by decide +kernel
theorem dMO_choose_37 : decode cMO_choose 37 = .ok (.imul, 1) := by decide +kernel
theorem dMO_choose_38 : decode cMO_choose 38 = .ok (.aload_n 0, 1) := by decide +kernel
theorem dMO_choose_39 : decode cMO_choose 39 = .ok (.getfield 7, 3) := by decide +kernel
theorem dMO_choose_42 : decode cMO_choose 42 = .ok (.aload_n 0, 1) := by decide +kernel
theorem dMO_choose_43 : decode cMO_choose 43 = .ok (.getfield 13, 3) := by decide +kernel
theorem dMO_choose_46 : decode cMO_choose 46 = .ok (.invokestatic 76, 3) := by decide +kernel
theorem dMO_choose_49 : decode cMO_choose 49 = .ok (.aload_n 0, 1) := by decide +kernel
theorem dMO_choose_50 : decode cMO_choose 50 = .ok (.getfield 7, 3) := by decide +kernel
theorem dMO_choose_53 : decode cMO_choose 53 = .ok (.invokestatic 84, 3) := by decide +kernel
theorem dMO_choose_56 : decode cMO_choose 56 = .ok (.istore_n 3, 1) := by decide +kernel
theorem dMO_choose_57 : decode cMO_choose 57 = .ok (.iload_n 3, 1) := by decide +kernel
theorem dMO_choose_58 : decode cMO_choose 58 = .ok (.iconst 1, 1) := by decide +kernel
theorem dMO_choose_59 : decode cMO_choose 59 = .ok (.if_icmp .eq 10, 3) := by decide +kernel
theorem dMO_choose_62 : decode cMO_choose 62 = .ok (.iload_n 3, 1) := by decide +kernel
theorem dMO_choose_63 : decode cMO_choose 63 = .ok (.iconst (-1), 1) := by decide +kernel
theorem dMO_choose_64 : decode cMO_choose 64 = .ok (.if_icmp .eq 5, 3) := by decide +kernel
theorem dMO_choose_67 : decode cMO_choose 67 = .ok (.iconst (-1), 1) := by decide +kernel
theorem dMO_choose_68 : decode cMO_choose 68 = .ok (.ireturn, 1) := by decide +kernel
theorem dMO_choose_69 : decode cMO_choose 69 = .ok (.aload_n 0, 1) := by decide +kernel
theorem dMO_choose_70 : decode cMO_choose 70 = .ok (.getfield 22, 3) := by decide +kernel
theorem dMO_choose_73 : decode cMO_choose 73 = .ok (.aload_n 0, 1) := by decide +kernel
theorem dMO_choose_74 : decode cMO_choose 74 = .ok (.getfield 92, 3) := by decide +kernel
theorem dMO_choose_77 : decode cMO_choose 77 = .ok (.sipush 13824, 3) := by decide +kernel
theorem dMO_choose_80 : decode cMO_choose 80 = .ok (.iload_n 1, 1) := by decide +kernel
theorem dMO_choose_81 : decode cMO_choose 81 = .ok (.imul, 1) := by decide +kernel
theorem dMO_choose_82 : decode cMO_choose 82 = .ok (.iload_n 2, 1) := by decide +kernel
theorem dMO_choose_83 : decode cMO_choose 83 = .ok (.iadd, 1) := by decide +kernel
theorem dMO_choose_84 : decode cMO_choose 84 = .ok (.iastore, 1) := by decide +kernel
theorem dMO_choose_85 : decode cMO_choose 85 = .ok (.aload_n 0, 1) := by decide +kernel
theorem dMO_choose_86 : decode cMO_choose 86 = .ok (.dup, 1) := by decide +kernel
theorem dMO_choose_87 : decode cMO_choose 87 = .ok (.getfield 92, 3) := by decide +kernel
theorem dMO_choose_90 : decode cMO_choose 90 = .ok (.iconst 1, 1) := by decide +kernel
theorem dMO_choose_91 : decode cMO_choose 91 = .ok (.iadd, 1) := by decide +kernel
theorem dMO_choose_92 : decode cMO_choose 92 = .ok (.putfield 92, 3) := by decide +kernel
theorem dMO_choose_95 : decode cMO_choose 95 = .ok (.aload_n 0, 1) := by decide +kernel
theorem dMO_choose_96 : decode cMO_choose 96 = .ok (.getfield 92, 3) := by decide +kernel
theorem dMO_choose_99 : decode cMO_choose 99 = .ok (.ireturn, 1) := by decide +kernel
theorem dMO_open_0 : decode cMO_open 0 = .ok (.iload_n 0, 1) := by decide +kernel
theorem dMO_open_1 : decode cMO_open 1 = .ok (.sipush 13824, 3) := by decide +kernel
theorem dMO_open_4 : decode cMO_open 4 = .ok (.idiv, 1) := by decide +kernel
theorem dMO_open_5 : decode cMO_open 5 = .ok (.istore_n 3, 1) := by decide +kernel
theorem dMO_open_6 : decode cMO_open 6 = .ok (.iload_n 0, 1) := by decide +kernel
theorem dMO_open_7 : decode cMO_open 7 = .ok (.sipush 13824, 3) := by decide +kernel
theorem dMO_open_10 : decode cMO_open 10 = .ok (.irem, 1) := by decide +kernel
theorem dMO_open_11 : decode cMO_open 11 = .ok (.istore 4, 2) := by decide +kernel
theorem dMO_open_13 : decode cMO_open 13 = .ok (.bipush 8, 2) := by decide +kernel
theorem dMO_open_15 : decode cMO_open 15 = .ok (.istore 5, 2) := by decide +kernel
theorem dMO_open_17 : decode cMO_open 17 = .ok (.iload 5, 2) := by decide +kernel
theorem dMO_open_19 : decode cMO_open 19 = .ok (.ifCond .lt 22, 3) := by decide +kernel
theorem dMO_open_22 : decode cMO_open 22 = .ok (.aload_n 1, 1) := by decide +kernel
theorem dMO_open_23 : decode cMO_open 23 = .ok (.iload 5, 2) := by decide +kernel
theorem dMO_open_25 : decode cMO_open 25 = .ok (.iload_n 3, 1) := by decide +kernel
theorem dMO_open_26 : decode cMO_open 26 = .ok (.iconst 3, 1) := by decide +kernel
theorem dMO_open_27 : decode cMO_open 27 = .ok (.irem, 1) := by decide +kernel
theorem dMO_open_28 : decode cMO_open 28 = .ok (.iconst 1, 1) := by decide +kernel
theorem dMO_open_29 : decode cMO_open 29 = .ok (.isub, 1) := by decide +kernel
theorem dMO_open_30 : decode cMO_open 30 = .ok (.iastore, 1) := by decide +kernel
theorem dMO_open_31 : decode cMO_open 31 = .ok (.iload_n 3, 1) := by decide +kernel
theorem dMO_open_32 : decode cMO_open 32 = .ok (.iconst 3, 1) := by decide +kernel
theorem dMO_open_33 : decode cMO_open 33 = .ok (.idiv, 1) := by decide +kernel
theorem dMO_open_34 : decode cMO_open 34 = .ok (.istore_n 3, 1) := by decide +kernel
theorem dMO_open_35 : decode cMO_open 35 = .ok (.iinc 5 (-1), 3) := by decide +kernel
theorem dMO_open_38 : decode cMO_open 38 = .ok (.goto (-21), 3) := by decide +kernel
theorem dMO_open_41 : decode cMO_open 41 = .ok (.iconst 2, 1) := by decide +kernel
theorem dMO_open_42 : decode cMO_open 42 = .ok (.istore 5, 2) := by decide +kernel
theorem dMO_open_44 : decode cMO_open 44 = .ok (.iload 5, 2) := by decide +kernel
theorem dMO_open_46 : decode cMO_open 46 = .ok (.ifCond .lt 25, 3) := by decide +kernel
theorem dMO_open_49 : decode cMO_open 49 = .ok (.aload_n 2, 1) := by decide +kernel
theorem dMO_open_50 : decode cMO_open 50 = .ok (.iload 5, 2) := by decide +kernel
theorem dMO_open_52 : decode cMO_open 52 = .ok (.iload 4, 2) := by decide +kernel
theorem dMO_open_54 : decode cMO_open 54 = .ok (.bipush 24, 2) := by decide +kernel
theorem dMO_open_56 : decode cMO_open 56 = .ok (.irem, 1) := by decide +kernel
theorem dMO_open_57 : decode cMO_open 57 = .ok (.iastore, 1) := by decide +kernel
theorem dMO_open_58 : decode cMO_open 58 = .ok (.iload 4, 2) := by decide +kernel
theorem dMO_open_60 : decode cMO_open 60 = .ok (.bipush 24, 2) := by decide +kernel
theorem dMO_open_62 : decode cMO_open 62 = .ok (.idiv, 1) := by decide +kernel
theorem dMO_open_63 : decode cMO_open 63 = .ok (.istore 4, 2) := by decide +kernel
theorem dMO_open_65 : decode cMO_open 65 = .ok (.iinc 5 (-1), 3) := by decide +kernel
theorem dMO_open_68 : decode cMO_open 68 = .ok (.goto (-24), 3) := by decide +kernel
theorem dMO_open_71 : decode cMO_open 71 = .ok (.return_, 1) := by decide +kernel
theorem dMO_determinant_0 : decode cMO_determinant 0 = .ok (.aload_n 0, 1) := by decide +kernel
theorem dMO_determinant_1 : decode cMO_determinant 1 = .ok (.iconst 0, 1) := by decide +kernel
theorem dMO_determinant_2 : decode cMO_determinant 2 = .ok (.iaload, 1) := by decide +kernel
theorem dMO_determinant_3 : decode cMO_determinant 3 = .ok (.aload_n 0, 1) := by decide +kernel
theorem dMO_determinant_4 : decode cMO_determinant 4 = .ok (.iconst 4, 1) := by decide +kernel
theorem dMO_determinant_5 : decode cMO_determinant 5 = .ok (.iaload, 1) := by decide +kernel
theorem dMO_determinant_6 : decode cMO_determinant 6 = .ok (.aload_n 0, 1) := by decide +kernel
theorem dMO_determinant_7 : decode cMO_determinant 7 = .ok (.bipush 8, 2) := by decide +kernel
theorem dMO_determinant_9 : decode cMO_determinant 9 = .ok (.iaload, 1) := by decide +kernel
theorem dMO_determinant_10 : decode cMO_determinant 10 = .ok (.imul, 1) := by decide +kernel
theorem dMO_determinant_11 : decode cMO_determinant 11 = .ok (.aload_n 0, 1) := by decide +kernel
theorem dMO_determinant_12 : decode cMO_determinant 12 = .ok (.iconst 5, 1) := by decide +kernel
theorem dMO_determinant_13 : decode cMO_determinant 13 = .ok (.iaload, 1) := by decide +kernel
theorem dMO_determinant_14 : decode cMO_determinant 14 = .ok (.aload_n 0, 1) := by decide +kernel
theorem dMO_determinant_15 : decode cMO_determinant 15 = .ok (.bipush 7, 2) := by decide +kernel
theorem dMO_determinant_17 : decode cMO_determinant 17 = .ok (.iaload, 1) := by decide +kernel
theorem dMO_determinant_18 : decode cMO_determinant 18 = .ok (.imul, 1) := by decide +kernel
theorem dMO_determinant_19 : decode cMO_determinant 19 = .ok (.isub, 1) := by decide +kernel
theorem dMO_determinant_20 : decode cMO_determinant 20 = .ok (.imul, 1) := by decide +kernel
theorem dMO_determinant_21 : decode cMO_determinant 21 = .ok (.aload_n 0, 1) := by decide +kernel
theorem dMO_determinant_22 : decode cMO_determinant 22 = .ok (.iconst 1, 1) := by decide +kernel
theorem dMO_determinant_23 : decode cMO_determinant 23 = .ok (.iaload, 1) := by decide +kernel
theorem dMO_determinant_24 : decode cMO_determinant 24 = .ok (.aload_n 0, 1) := by decide +kernel
theorem dMO_determinant_25 : decode cMO_determinant 25 = .ok (.iconst 3, 1) := by decide +kernel
theorem dMO_determinant_26 : decode cMO_determinant 26 = .ok (.iaload, 1) := by decide +kernel
theorem dMO_determinant_27 : decode cMO_determinant 27 = .ok (.aload_n 0, 1) := by decide +kernel
theorem dMO_determinant_28 : decode cMO_determinant 28 = .ok (.bipush 8, 2) := by decide +kernel
theorem dMO_determinant_30 : decode cMO_determinant 30 = .ok (.iaload, 1) := by decide +kernel
theorem dMO_determinant_31 : decode cMO_determinant 31 = .ok (.imul, 1) := by decide +kernel
theorem dMO_determinant_32 : decode cMO_determinant 32 = .ok (.aload_n 0, 1) := by decide +kernel
theorem dMO_determinant_33 : decode cMO_determinant 33 = .ok (.iconst 5, 1) := by decide +kernel
theorem dMO_determinant_34 : decode cMO_determinant 34 = .ok (.iaload, 1) := by decide +kernel
theorem dMO_determinant_35 : decode cMO_determinant 35 = .ok (.aload_n 0, 1) := by decide +kernel
theorem dMO_determinant_36 : decode cMO_determinant 36 = .ok (.bipush 6, 2) := by decide +kernel
theorem dMO_determinant_38 : decode cMO_determinant 38 = .ok (.iaload, 1) := by decide +kernel
theorem dMO_determinant_39 : decode cMO_determinant 39 = .ok (.imul, 1) := by decide +kernel
theorem dMO_determinant_40 : decode cMO_determinant 40 = .ok (.isub, 1) := by decide +kernel
theorem dMO_determinant_41 : decode cMO_determinant 41 = .ok (.imul, 1) := by decide +kernel
theorem dMO_determinant_42 : decode cMO_determinant 42 = .ok (.isub, 1) := by decide +kernel
theorem dMO_determinant_43 : decode cMO_determinant 43 = .ok (.aload_n 0, 1) := by decide +kernel
theorem dMO_determinant_44 : decode cMO_determinant 44 = .ok (.iconst 2, 1) := by decide +kernel
theorem dMO_determinant_45 : decode cMO_determinant 45 = .ok (.iaload, 1) := by decide +kernel
theorem dMO_determinant_46 : decode cMO_determinant 46 = .ok (.aload_n 0, 1) := by decide +kernel
theorem dMO_determinant_47 : decode cMO_determinant 47 = .ok (.iconst 3, 1) := by decide +kernel
theorem dMO_determinant_48 : decode cMO_determinant 48 = .ok (.iaload, 1) := by decide +kernel
theorem dMO_determinant_49 : decode cMO_determinant 49 = .ok (.aload_n 0, 1) := by decide +kernel
theorem dMO_determinant_50 : decode cMO_determinant 50 = .ok (.bipush 7, 2) := by decide +kernel
theorem dMO_determinant_52 : decode cMO_determinant 52 = .ok (.iaload, 1) := by decide +kernel
theorem dMO_determinant_53 : decode cMO_determinant 53 = .ok (.imul, 1) := by decide +kernel
theorem dMO_determinant_54 : decode cMO_determinant 54 = .ok (.aload_n 0, 1) := by decide +kernel
theorem dMO_determinant_55 : decode cMO_determinant 55 = .ok (.iconst 4, 1) := by decide +kernel
theorem dMO_determinant_56 : decode cMO_determinant 56 = .ok (.iaload, 1) := by decide +kernel
theorem dMO_determinant_57 : decode cMO_determinant 57 = .ok (.aload_n 0, 1) := by decide +kernel
theorem dMO_determinant_58 : decode cMO_determinant 58 = .ok (.bipush 6, 2) := by decide +kernel
theorem dMO_determinant_60 : decode cMO_determinant 60 = .ok (.iaload, 1) := by decide +kernel
theorem dMO_determinant_61 : decode cMO_determinant 61 = .ok (.imul, 1) := by decide +kernel
theorem dMO_determinant_62 : decode cMO_determinant 62 = .ok (.isub, 1) := by decide +kernel
theorem dMO_determinant_63 : decode cMO_determinant 63 = .ok (.imul, 1) := by decide +kernel
theorem dMO_determinant_64 : decode cMO_determinant 64 = .ok (.iadd, 1) := by decide +kernel
theorem dMO_determinant_65 : decode cMO_determinant 65 = .ok (.ireturn, 1) := by decide +kernel
theorem dMO_group_0 : decode cMO_group 0 = .ok (.aload_n 0, 1) := by decide +kernel
theorem dMO_group_1 : decode cMO_group 1 = .ok (.iconst 1, 1) := by decide +kernel
theorem dMO_group_2 : decode cMO_group 2 = .ok (.putfield 95, 3) := by decide +kernel
theorem dMO_group_5 : decode cMO_group 5 = .ok (.aload_n 0, 1) := by decide +kernel
theorem dMO_group_6 : decode cMO_group 6 = .ok (.getfield 31, 3) := by decide +kernel
theorem dMO_group_9 : decode cMO_group 9 = .ok (.iconst 0, 1) := by decide +kernel
theorem dMO_group_10 : decode cMO_group 10 = .ok (.invokestatic 98, 3) := by decide +kernel
theorem dMO_group_13 : decode cMO_group 13 = .ok (.iastore, 1) := by decide +kernel
theorem dMO_group_14 : decode cMO_group 14 = .ok (.iconst 1, 1) := by decide +kernel
theorem dMO_group_15 : decode cMO_group 15 = .ok (.istore_n 1, 1) := by decide +kernel
theorem dMO_group_16 : decode cMO_group 16 = .ok (.iconst 0, 1) := by decide +kernel
theorem dMO_group_17 : decode cMO_group 17 = .ok (.istore_n 2, 1) := by decide +kernel
theorem dMO_group_18 : decode cMO_group 18 = .ok (.iload_n 2, 1) := by decide +kernel
theorem dMO_group_19 : decode cMO_group 19 = .ok (.aload_n 0, 1) := by decide +kernel
theorem dMO_group_20 : decode cMO_group 20 = .ok (.getfield 95, 3) := by decide +kernel
theorem dMO_group_23 : decode cMO_group 23 = .ok (.if_icmp .ge 123, 3) := by decide +kernel
theorem dMO_group_26 : decode cMO_group 26 = .ok (.iload_n 1, 1) := by decide +kernel
theorem dMO_group_27 : decode cMO_group 27 = .ok (.ifCond .eq 119, 3) := by decide +kernel
theorem dMO_group_30 : decode cMO_group 30 = .ok (.iconst 0, 1) := by decide +kernel
theorem dMO_group_31 : decode cMO_group 31 = .ok (.istore_n 3, 1) := by decide +kernel
theorem dMO_group_32 : decode cMO_group 32 = .ok (.iload_n 3, 1) := by decide +kernel
theorem dMO_group_33 : decode cMO_group 33 = .ok (.aload_n 0, 1) := by decide +kernel
theorem dMO_group_34 : decode cMO_group 34 = .ok (.getfield 92, 3) := by decide +kernel
theorem dMO_group_37 : decode cMO_group 37 = .ok (.if_icmp .ge 103, 3) := by decide +kernel
theorem dMO_group_40 : decode cMO_group 40 = .ok (.iload_n 1, 1) := by decide +kernel
theorem dMO_group_41 : decode cMO_group 41 = .ok (.ifCond .eq 99, 3) := by decide +kernel
theorem dMO_group_44 : decode cMO_group 44 = .ok (.aload_n 0, 1) := by decide +kernel
theorem dMO_group_45 : decode cMO_group 45 = .ok (.aload_n 0, 1) := by decide +kernel
theorem dMO_group_46 : decode cMO_group 46 = .ok (.getfield 31, 3) := by decide +kernel
theorem dMO_group_49 : decode cMO_group 49 = .ok (.iload_n 2, 1) := by decide +kernel
theorem dMO_group_50 : decode cMO_group 50 = .ok (.iaload, 1) := by decide +kernel
theorem dMO_group_51 : decode cMO_group 51 = .ok (.aload_n 0, 1) := by decide +kernel
theorem dMO_group_52 : decode cMO_group 52 = .ok (.getfield 22, 3) := by decide +kernel
theorem dMO_group_55 : decode cMO_group 55 = .ok (.iload_n 3, 1) := by decide +kernel
theorem dMO_group_56 : decode cMO_group 56 = .ok (.iaload, 1) := by decide +kernel
theorem dMO_group_57 : decode cMO_group 57 = .ok (.invokevirtual 102, 3) := by decide +kernel
theorem dMO_group_60 : decode cMO_group 60 = .ok (.istore 4, 2) := by decide +kernel
theorem dMO_group_62 : decode cMO_group 62 = .ok (.iload 4, 2) := by decide +kernel
theorem dMO_group_64 : decode cMO_group 64 = .ok (.iconst (-1), 1) := by decide +kernel
theorem dMO_group_65 : decode cMO_group 65 = .ok (.if_icmp .eq 7, 3) := by decide +kernel
theorem dMO_group_68 : decode cMO_group 68 = .ok (.iconst 1, 1) := by decide +kernel
theorem dMO_group_69 : decode cMO_group 69 = .ok (.goto 4, 3) := by decide +kernel
theorem dMO_group_72 : decode cMO_group 72 = .ok (.iconst 0, 1) := by decide +kernel
theorem dMO_group_73 : decode cMO_group 73 = .ok (.istore_n 1, 1) := by decide +kernel
theorem dMO_group_74 : decode cMO_group 74 = .ok (.iload_n 1, 1) := by decide +kernel
theorem dMO_group_75 : decode cMO_group 75 = .ok (.ifCond .eq 59, 3) := by decide +kernel
theorem dMO_group_78 : decode cMO_group 78 = .ok (.aload_n 0, 1) := by decide +kernel
theorem dMO_group_79 : decode cMO_group 79 = .ok (.iload 4, 2) := by decide +kernel
theorem dMO_group_81 : decode cMO_group 81 = .ok (.invokevirtual 106, 3) := by decide +kernel
theorem dMO_group_84 : decode cMO_group 84 = .ok (.ifCond .eq 6, 3) := by decide +kernel
theorem dMO_group_87 : decode cMO_group 87 = .ok (.goto 47, 3) := by decide +kernel
theorem dMO_group_90 : decode cMO_group 90 = .ok (.aload_n 0, 1) := by decide +kernel
theorem dMO_group_91 : decode cMO_group 91 = .ok (.getfield 95, 3) := by decide +kernel
theorem dMO_group_94 : decode cMO_group 94 = .ok (.sipush 192, 3) := by decide +kernel
theorem dMO_group_97 : decode cMO_group 97 = .ok (.if_icmp .ge 7, 3) := by decide +kernel
theorem dMO_group_100 : decode cMO_group 100 = .ok (.iconst 1, 1) := by decide +kernel
theorem dMO_group_101 : decode cMO_group 101 = .ok (.goto 4, 3) := by decide +kernel
theorem dMO_group_104 : decode cMO_group 104 = .ok (.iconst 0, 1) := by decide +kernel
theorem dMO_group_105 : decode cMO_group 105 = .ok (.istore_n 1, 1) := by decide +kernel
theorem dMO_group_106 : decode cMO_group 106 = .ok (.iload_n 1, 1) := by decide +kernel
theorem dMO_group_107 : decode cMO_group 107 = .ok (.ifCond .ne 6, 3) := by decide +kernel
theorem dMO_group_110 : decode cMO_group 110 = .ok (.goto 24, 3) := by decide +kernel
theorem dMO_group_113 : decode cMO_group 113 = .ok (.aload_n 0, 1) := by decide +kernel
theorem dMO_group_114 : decode cMO_group 114 = .ok (.getfield 31, 3) := by decide +kernel
theorem dMO_group_117 : decode cMO_group 117 = .ok (.aload_n 0, 1) := by decide +kernel
theorem dMO_group_118 : decode cMO_group 118 = .ok (.getfield 95, 3) := by decide +kernel
theorem dMO_group_121 : decode cMO_group 121 = .ok (.iload 4, 2) := by decide +kernel
theorem dMO_group_123 : decode cMO_group 123 = .ok (.iastore, 1) := by decide +kernel
theorem dMO_group_124 : decode cMO_group 124 = .ok (.aload_n 0, 1) := by decide +kernel
theorem dMO_group_125 : decode cMO_group 125 = .ok (.dup, 1) := by decide +kernel
theorem dMO_group_126 : decode cMO_group 126 = .ok (.getfield 95, 3) := by decide +kernel
theorem dMO_group_129 : decode cMO_group 129 = .ok (.iconst 1, 1) := by decide +kernel
theorem dMO_group_130 : decode cMO_group 130 = .ok (.iadd, 1) := by decide +kernel
theorem dMO_group_131 : decode cMO_group 131 = .ok (.putfield 95, 3) := by decide +kernel
theorem dMO_group_134 : decode cMO_group 134 = .ok (.iinc 3 1, 3) := by decide +kernel
theorem dMO_group_137 : decode cMO_group 137 = .ok (.goto (-105), 3) := by decide +kernel
theorem dMO_group_140 : decode cMO_group 140 = .ok (.iinc 2 1, 3) := by decide +kernel
theorem dMO_group_143 : decode cMO_group 143 = .ok (.goto (-125), 3) := by decide +kernel
theorem dMO_group_146 : decode cMO_group 146 = .ok (.aload_n 0, 1) := by decide +kernel
theorem dMO_group_147 : decode cMO_group 147 = .ok (.iconst 0, 1) := by decide +kernel
theorem dMO_group_148 : decode cMO_group 148 = .ok (.putfield 92, 3) := by decide +kernel
theorem dMO_group_151 : decode cMO_group 151 = .ok (.iload_n 1, 1) := by decide +kernel
theorem dMO_group_152 : decode cMO_group 152 = .ok (.ifCond .eq 10, 3) := by decide +kernel
theorem dMO_group_155 : decode cMO_group 155 = .ok (.aload_n 0, 1) := by decide +kernel
theorem dMO_group_156 : decode cMO_group 156 = .ok (.invokevirtual 110, 3) := by decide +kernel
theorem dMO_group_159 : decode cMO_group 159 = .ok (.goto 4, 3) := by decide +kernel
theorem dMO_group_162 : decode cMO_group 162 = .ok (.iconst (-1), 1) := by decide +kernel
theorem dMO_group_163 : decode cMO_group 163 = .ok (.ireturn, 1) := by decide +kernel
theorem dMO_identity_0 : decode cMO_identity 0 = .ok (.iconst 0, 1) := by decide +kernel
theorem dMO_identity_1 : decode cMO_identity 1 = .ok (.istore_n 0, 1) := by decide +kernel
theorem dMO_identity_2 : decode cMO_identity 2 = .ok (.iconst 0, 1) := by decide +kernel
theorem dMO_identity_3 : decode cMO_identity 3 = .ok (.istore_n 1, 1) := by decide +kernel
theorem dMO_identity_4 : decode cMO_identity 4 = .ok (.iload_n 1, 1) := by decide +kernel
theorem dMO_identity_5 : decode cMO_identity 5 = .ok (.bipush 9, 2) := by decide +kernel
theorem dMO_identity_7 : decode cMO_identity 7 = .ok (.if_icmp .ge 25, 3) := by decide +kernel
theorem dMO_identity_10 : decode cMO_identity 10 = .ok (.iconst 3, 1) := by decide +kernel
theorem dMO_identity_11 : decode cMO_identity 11 = .ok (.iload_n 0, 1) := by decide +kernel
theorem dMO_identity_12 : decode cMO_identity 12 = .ok (.imul, 1) := by decide +kernel
theorem dMO_identity_13 : decode cMO_identity 13 = .ok (.iload_n 1, 1) := by decide +kernel
theorem dMO_identity_14 : decode cMO_identity 14 = .ok (.iconst 4, 1) := by decide +kernel
theorem dMO_identity_15 : decode cMO_identity 15 = .ok (.irem, 1) := by decide +kernel
theorem dMO_identity_16 : decode cMO_identity 16 = .ok (.ifCond .ne 7, 3) := by decide +kernel
theorem dMO_identity_19 : decode cMO_identity 19 = .ok (.iconst 2, 1) := by decide +kernel
theorem dMO_identity_20 : decode cMO_identity 20 = .ok (.goto 4, 3) := by decide +kernel
theorem dMO_identity_23 : decode cMO_identity 23 = .ok (.iconst 1, 1) := by decide +kernel
theorem dMO_identity_24 : decode cMO_identity 24 = .ok (.iadd, 1) := by decide +kernel
theorem dMO_identity_25 : decode cMO_identity 25 = .ok (.istore_n 0, 1) := by decide +kernel
theorem dMO_identity_26 : decode cMO_identity 26 = .ok (.iinc 1 1, 3) := by decide +kernel
theorem dMO_identity_29 : decode cMO_identity 29 = .ok (.goto (-25), 3) := by decide +kernel
theorem dMO_identity_32 : decode cMO_identity 32 = .ok (.sipush 13824, 3) := by decide +kernel
theorem dMO_identity_35 : decode cMO_identity 35 = .ok (.iload_n 0, 1) := by decide +kernel
theorem dMO_identity_36 : decode cMO_identity 36 = .ok (.imul, 1) := by decide +kernel
theorem dMO_identity_37 : decode cMO_identity 37 = .ok (.ireturn, 1) := by decide +kernel
theorem dMO_times_0 : decode cMO_times 0 = .ok (.iload_n 1, 1) := by decide +kernel
theorem dMO_times_1 : decode cMO_times 1 = .ok (.aload_n 0, 1) := by decide +kernel
theorem dMO_times_2 : decode cMO_times 2 = .ok (.getfield 7, 3) := by decide +kernel
theorem dMO_times_5 : decode cMO_times 5 = .ok (.aload_n 0, 1) := by decide +kernel
theorem dMO_times_6 : decode cMO_times 6 = .ok (.getfield 13, 3) := by decide +kernel
theorem dMO_times_9 : decode cMO_times 9 = .ok (.invokestatic 76, 3) := by decide +kernel
theorem dMO_times_12 : decode cMO_times 12 = .ok (.iload_n 2, 1) := by decide +kernel
theorem dMO_times_13 : decode cMO_times 13 = .ok (.aload_n 0, 1) := by decide +kernel
theorem dMO_times_14 : decode cMO_times 14 = .ok (.getfield 16, 3) := by decide +kernel
theorem dMO_times_17 : decode cMO_times 17 = .ok (.aload_n 0, 1) := by decide +kernel
theorem dMO_times_18 : decode cMO_times 18 = .ok (.getfield 19, 3) := by decide +kernel
theorem dMO_times_21 : decode cMO_times 21 = .ok (.invokestatic 76, 3) := by decide +kernel
theorem dMO_times_24 : decode cMO_times 24 = .ok (.iconst 0, 1) := by decide +kernel
theorem dMO_times_25 : decode cMO_times 25 = .ok (.istore_n 3, 1) := by decide +kernel
theorem dMO_times_26 : decode cMO_times 26 = .ok (.iload_n 3, 1) := by decide +kernel
theorem dMO_times_27 : decode cMO_times 27 = .ok (.iconst 3, 1) := by decide +kernel
theorem dMO_times_28 : decode cMO_times 28 = .ok (.if_icmp .ge 171, 3) := by decide +kernel
theorem dMO_times_31 : decode cMO_times 31 = .ok (.iconst 0, 1) := by decide +kernel
theorem dMO_times_32 : decode cMO_times 32 = .ok (.istore 4, 2) := by decide +kernel
theorem dMO_times_34 : decode cMO_times 34 = .ok (.iload 4, 2) := by decide +kernel
theorem dMO_times_36 : decode cMO_times 36 = .ok (.iconst 3, 1) := by decide +kernel
theorem dMO_times_37 : decode cMO_times 37 = .ok (.if_icmp .ge 79, 3) := by decide +kernel
theorem dMO_times_40 : decode cMO_times 40 = .ok (.aload_n 0, 1) := by decide +kernel
theorem dMO_times_41 : decode cMO_times 41 = .ok (.getfield 70, 3) := by decide +kernel
theorem dMO_times_44 : decode cMO_times 44 = .ok (.iconst 3, 1) := by decide +kernel
theorem dMO_times_45 : decode cMO_times 45 = .ok (.iload_n 3, 1) := by decide +kernel
theorem dMO_times_46 : decode cMO_times 46 = .ok (.imul, 1) := by decide +kernel
theorem dMO_times_47 : decode cMO_times 47 = .ok (.iload 4, 2) := by decide +kernel
theorem dMO_times_49 : decode cMO_times 49 = .ok (.iadd, 1) := by decide +kernel
theorem dMO_times_50 : decode cMO_times 50 = .ok (.aload_n 0, 1) := by decide +kernel
theorem dMO_times_51 : decode cMO_times 51 = .ok (.getfield 7, 3) := by decide +kernel
theorem dMO_times_54 : decode cMO_times 54 = .ok (.iconst 3, 1) := by decide +kernel
theorem dMO_times_55 : decode cMO_times 55 = .ok (.iload_n 3, 1) := by decide +kernel
theorem dMO_times_56 : decode cMO_times 56 = .ok (.imul, 1) := by decide +kernel
theorem dMO_times_57 : decode cMO_times 57 = .ok (.iaload, 1) := by decide +kernel
theorem dMO_times_58 : decode cMO_times 58 = .ok (.aload_n 0, 1) := by decide +kernel
theorem dMO_times_59 : decode cMO_times 59 = .ok (.getfield 16, 3) := by decide +kernel
theorem dMO_times_62 : decode cMO_times 62 = .ok (.iload 4, 2) := by decide +kernel
theorem dMO_times_64 : decode cMO_times 64 = .ok (.iaload, 1) := by decide +kernel
theorem dMO_times_65 : decode cMO_times 65 = .ok (.imul, 1) := by decide +kernel
theorem dMO_times_66 : decode cMO_times 66 = .ok (.aload_n 0, 1) := by decide +kernel
theorem dMO_times_67 : decode cMO_times 67 = .ok (.getfield 7, 3) := by decide +kernel
theorem dMO_times_70 : decode cMO_times 70 = .ok (.iconst 3, 1) := by decide +kernel
theorem dMO_times_71 : decode cMO_times 71 = .ok (.iload_n 3, 1) := by decide +kernel
theorem dMO_times_72 : decode cMO_times 72 = .ok (.imul, 1) := by decide +kernel
theorem dMO_times_73 : decode cMO_times 73 = .ok (.iconst 1, 1) := by decide +kernel
theorem dMO_times_74 : decode cMO_times 74 = .ok (.iadd, 1) := by decide +kernel
theorem dMO_times_75 : decode cMO_times 75 = .ok (.iaload, 1) := by decide +kernel
theorem dMO_times_76 : decode cMO_times 76 = .ok (.aload_n 0, 1) := by decide +kernel
theorem dMO_times_77 : decode cMO_times 77 = .ok (.getfield 16, 3) := by decide +kernel
theorem dMO_times_80 : decode cMO_times 80 = .ok (.iconst 3, 1) := by decide +kernel
theorem dMO_times_81 : decode cMO_times 81 = .ok (.iload 4, 2) := by decide +kernel
theorem dMO_times_83 : decode cMO_times 83 = .ok (.iadd, 1) := by decide +kernel
theorem dMO_times_84 : decode cMO_times 84 = .ok (.iaload, 1) := by decide +kernel
theorem dMO_times_85 : decode cMO_times 85 = .ok (.imul, 1) := by decide +kernel
theorem dMO_times_86 : decode cMO_times 86 = .ok (.iadd, 1) := by decide +kernel
theorem dMO_times_87 : decode cMO_times 87 = .ok (.aload_n 0, 1) := by decide +kernel
theorem dMO_times_88 : decode cMO_times 88 = .ok (.getfield 7, 3) := by decide +kernel
theorem dMO_times_91 : decode cMO_times 91 = .ok (.iconst 3, 1) := by decide +kernel
theorem dMO_times_92 : decode cMO_times 92 = .ok (.iload_n 3, 1) := by decide +kernel
theorem dMO_times_93 : decode cMO_times 93 = .ok (.imul, 1) := by decide +kernel
theorem dMO_times_94 : decode cMO_times 94 = .ok (.iconst 2, 1) := by decide +kernel
theorem dMO_times_95 : decode cMO_times 95 = .ok (.iadd, 1) := by decide +kernel
theorem dMO_times_96 : decode cMO_times 96 = .ok (.iaload, 1) := by decide +kernel
theorem dMO_times_97 : decode cMO_times 97 = .ok (.aload_n 0, 1) := by decide +kernel
theorem dMO_times_98 : decode cMO_times 98 = .ok (.getfield 16, 3) := by decide +kernel
theorem dMO_times_101 : decode cMO_times 101 = .ok (.bipush 6, 2) := by decide +kernel
theorem dMO_times_103 : decode cMO_times 103 = .ok (.iload 4, 2) := by decide +kernel
theorem dMO_times_105 : decode cMO_times 105 = .ok (.iadd, 1) := by decide +kernel
theorem dMO_times_106 : decode cMO_times 106 = .ok (.iaload, 1) := by decide +kernel
theorem dMO_times_107 : decode cMO_times 107 = .ok (.imul, 1) := by decide +kernel
theorem dMO_times_108 : decode cMO_times 108 = .ok (.iadd, 1) := by decide +kernel
theorem dMO_times_109 : decode cMO_times 109 = .ok (.iastore, 1) := by decide +kernel
theorem dMO_times_110 : decode cMO_times 110 = .ok (.iinc 4 1, 3) := by decide +kernel
theorem dMO_times_113 : decode cMO_times 113 = .ok (.goto (-79), 3) := by decide +kernel
theorem dMO_times_116 : decode cMO_times 116 = .ok (.aload_n 0, 1) := by decide +kernel
theorem dMO_times_117 : decode cMO_times 117 = .ok (.getfield 7, 3) := by decide +kernel
theorem dMO_times_120 : decode cMO_times 120 = .ok (.iconst 3, 1) := by decide +kernel
theorem dMO_times_121 : decode cMO_times 121 = .ok (.iload_n 3, 1) := by decide +kernel
theorem dMO_times_122 : decode cMO_times 122 = .ok (.imul, 1) := by decide +kernel
theorem dMO_times_123 : decode cMO_times 123 = .ok (.iaload, 1) := by decide +kernel
theorem dMO_times_124 : decode cMO_times 124 = .ok (.aload_n 0, 1) := by decide +kernel
theorem dMO_times_125 : decode cMO_times 125 = .ok (.getfield 19, 3) := by decide +kernel
theorem dMO_times_128 : decode cMO_times 128 = .ok (.iconst 0, 1) := by decide +kernel
theorem dMO_times_129 : decode cMO_times 129 = .ok (.iaload, 1) := by decide +kernel
theorem dMO_times_130 : decode cMO_times 130 = .ok (.imul, 1) := by decide +kernel
theorem dMO_times_131 : decode cMO_times 131 = .ok (.aload_n 0, 1) := by decide +kernel
theorem dMO_times_132 : decode cMO_times 132 = .ok (.getfield 7, 3) := by decide +kernel
theorem dMO_times_135 : decode cMO_times 135 = .ok (.iconst 3, 1) := by decide +kernel
theorem dMO_times_136 : decode cMO_times 136 = .ok (.iload_n 3, 1) := by decide +kernel
theorem dMO_times_137 : decode cMO_times 137 = .ok (.imul, 1) := by decide +kernel
theorem dMO_times_138 : decode cMO_times 138 = .ok (.iconst 1, 1) := by decide +kernel
theorem dMO_times_139 : decode cMO_times 139 = .ok (.iadd, 1) := by decide +kernel
theorem dMO_times_140 : decode cMO_times 140 = .ok (.iaload, 1) := by decide +kernel
theorem dMO_times_141 : decode cMO_times 141 = .ok (.aload_n 0, 1) := by decide +kernel
theorem dMO_times_142 : decode cMO_times 142 = .ok (.getfield 19, 3) := by decide +kernel
theorem dMO_times_145 : decode cMO_times 145 = .ok (.iconst 1, 1) := by decide +kernel
theorem dMO_times_146 : decode cMO_times 146 = .ok (.iaload, 1) := by decide +kernel
theorem dMO_times_147 : decode cMO_times 147 = .ok (.imul, 1) := by decide +kernel
theorem dMO_times_148 : decode cMO_times 148 = .ok (.iadd, 1) := by decide +kernel
theorem dMO_times_149 : decode cMO_times 149 = .ok (.aload_n 0, 1) := by decide +kernel
theorem dMO_times_150 : decode cMO_times 150 = .ok (.getfield 7, 3) := by decide +kernel
theorem dMO_times_153 : decode cMO_times 153 = .ok (.iconst 3, 1) := by decide +kernel
theorem dMO_times_154 : decode cMO_times 154 = .ok (.iload_n 3, 1) := by decide +kernel
theorem dMO_times_155 : decode cMO_times 155 = .ok (.imul, 1) := by decide +kernel
theorem dMO_times_156 : decode cMO_times 156 = .ok (.iconst 2, 1) := by decide +kernel
theorem dMO_times_157 : decode cMO_times 157 = .ok (.iadd, 1) := by decide +kernel
theorem dMO_times_158 : decode cMO_times 158 = .ok (.iaload, 1) := by decide +kernel
theorem dMO_times_159 : decode cMO_times 159 = .ok (.aload_n 0, 1) := by decide +kernel
theorem dMO_times_160 : decode cMO_times 160 = .ok (.getfield 19, 3) := by decide +kernel
theorem dMO_times_163 : decode cMO_times 163 = .ok (.iconst 2, 1) := by decide +kernel
theorem dMO_times_164 : decode cMO_times 164 = .ok (.iaload, 1) := by decide +kernel
theorem dMO_times_165 : decode cMO_times 165 = .ok (.imul, 1) := by decide +kernel
theorem dMO_times_166 : decode cMO_times 166 = .ok (.iadd, 1) := by decide +kernel
theorem dMO_times_167 : decode cMO_times 167 = .ok (.aload_n 0, 1) := by decide +kernel
theorem dMO_times_168 : decode cMO_times 168 = .ok (.getfield 13, 3) := by decide +kernel
theorem dMO_times_171 : decode cMO_times 171 = .ok (.iload_n 3, 1) := by decide +kernel
theorem dMO_times_172 : decode cMO_times 172 = .ok (.iaload, 1) := by decide +kernel
theorem dMO_times_173 : decode cMO_times 173 = .ok (.iadd, 1) := by decide +kernel
theorem dMO_times_174 : decode cMO_times 174 = .ok (.istore 4, 2) := by decide +kernel
theorem dMO_times_176 : decode cMO_times 176 = .ok (.aload_n 0, 1) := by decide +kernel
theorem dMO_times_177 : decode cMO_times 177 = .ok (.getfield 73, 3) := by decide +kernel
theorem dMO_times_180 : decode cMO_times 180 = .ok (.iload_n 3, 1) := by decide +kernel
theorem dMO_times_181 : decode cMO_times 181 = .ok (.iload 4, 2) := by decide +kernel
theorem dMO_times_183 : decode cMO_times 183 = .ok (.bipush 24, 2) := by decide +kernel
theorem dMO_times_185 : decode cMO_times 185 = .ok (.irem, 1) := by decide +kernel
theorem dMO_times_186 : decode cMO_times 186 = .ok (.bipush 24, 2) := by decide +kernel
theorem dMO_times_188 : decode cMO_times 188 = .ok (.iadd, 1) := by decide +kernel
theorem dMO_times_189 : decode cMO_times 189 = .ok (.bipush 24, 2) := by decide +kernel
theorem dMO_times_191 : decode cMO_times 191 = .ok (.irem, 1) := by decide +kernel
theorem dMO_times_192 : decode cMO_times 192 = .ok (.iastore, 1) := by decide +kernel
theorem dMO_times_193 : decode cMO_times 193 = .ok (.iinc 3 1, 3) := by decide +kernel
theorem dMO_times_196 : decode cMO_times 196 = .ok (.goto (-170), 3) := by decide +kernel
theorem dMO_times_199 : decode cMO_times 199 = .ok (.aload_n 0, 1) := by decide +kernel
theorem dMO_times_200 : decode cMO_times 200 = .ok (.getfield 70, 3) := by decide +kernel
theorem dMO_times_203 : decode cMO_times 203 = .ok (.aload_n 0, 1) := by decide +kernel
theorem dMO_times_204 : decode cMO_times 204 = .ok (.getfield 73, 3) := by decide +kernel
theorem dMO_times_207 : decode cMO_times 207 = .ok (.invokestatic 80, 3) := by decide +kernel
theorem dMO_times_210 : decode cMO_times 210 = .ok (.ireturn, 1) := by decide +kernel
theorem dMO_closed_0 : decode cMO_closed 0 = .ok (.iconst 0, 1) := by decide +kernel
theorem dMO_closed_1 : decode cMO_closed 1 = .ok (.istore_n 2, 1) := by decide +kernel
theorem dMO_closed_2 : decode cMO_closed 2 = .ok (.iconst 0, 1) := by decide +kernel
theorem dMO_closed_3 : decode cMO_closed 3 = .ok (.istore_n 3, 1) := by decide +kernel
theorem dMO_closed_4 : decode cMO_closed 4 = .ok (.iload_n 3, 1) := by decide +kernel
theorem dMO_closed_5 : decode cMO_closed 5 = .ok (.bipush 9, 2) := by decide +kernel
theorem dMO_closed_7 : decode cMO_closed 7 = .ok (.if_icmp .ge 35, 3) := by decide +kernel
theorem dMO_closed_10 : decode cMO_closed 10 = .ok (.aload_n 0, 1) := by decide +kernel
theorem dMO_closed_11 : decode cMO_closed 11 = .ok (.iload_n 3, 1) := by decide +kernel
theorem dMO_closed_12 : decode cMO_closed 12 = .ok (.iaload, 1) := by decide +kernel
theorem dMO_closed_13 : decode cMO_closed 13 = .ok (.iconst (-1), 1) := by decide +kernel
theorem dMO_closed_14 : decode cMO_closed 14 = .ok (.if_icmp .lt 10, 3) := by decide +kernel
theorem dMO_closed_17 : decode cMO_closed 17 = .ok (.aload_n 0, 1) := by decide +kernel
theorem dMO_closed_18 : decode cMO_closed 18 = .ok (.iload_n 3, 1) := by decide +kernel
theorem dMO_closed_19 : decode cMO_closed 19 = .ok (.iaload, 1) := by decide +kernel
theorem dMO_closed_20 : decode cMO_closed 20 = .ok (.iconst 1, 1) := by decide +kernel
theorem dMO_closed_21 : decode cMO_closed 21 = .ok (.if_icmp .le 5, 3) := by decide +kernel
theorem dMO_closed_24 : decode cMO_closed 24 = .ok (.iconst (-1), 1) := by decide +kernel
theorem dMO_closed_25 : decode cMO_closed 25 = .ok (.ireturn, 1) := by decide +kernel
theorem dMO_closed_26 : decode cMO_closed 26 = .ok (.iconst 3, 1) := by decide +kernel
theorem dMO_closed_27 : decode cMO_closed 27 = .ok (.iload_n 2, 1) := by decide +kernel
theorem dMO_closed_28 : decode cMO_closed 28 = .ok (.imul, 1) := by decide +kernel
theorem dMO_closed_29 : decode cMO_closed 29 = .ok (.aload_n 0, 1) := by decide +kernel
theorem dMO_closed_30 : decode cMO_closed 30 = .ok (.iload_n 3, 1) := by decide +kernel
theorem dMO_closed_31 : decode cMO_closed 31 = .ok (.iaload, 1) := by decide +kernel
theorem dMO_closed_32 : decode cMO_closed 32 = .ok (.iadd, 1) := by decide +kernel
theorem dMO_closed_33 : decode cMO_closed 33 = .ok (.iconst 1, 1) := by decide +kernel
theorem dMO_closed_34 : decode cMO_closed 34 = .ok (.iadd, 1) := by decide +kernel
theorem dMO_closed_35 : decode cMO_closed 35 = .ok (.istore_n 2, 1) := by decide +kernel
theorem dMO_closed_36 : decode cMO_closed 36 = .ok (.iinc 3 1, 3) := by decide +kernel
theorem dMO_closed_39 : decode cMO_closed 39 = .ok (.goto (-35), 3) := by decide +kernel
theorem dMO_closed_42 : decode cMO_closed 42 = .ok (.sipush 13824, 3) := by decide +kernel
theorem dMO_closed_45 : decode cMO_closed 45 = .ok (.iload_n 2, 1) := by decide +kernel
theorem dMO_closed_46 : decode cMO_closed 46 = .ok (.imul, 1) := by decide +kernel
theorem dMO_closed_47 : decode cMO_closed 47 = .ok (.sipush 576, 3) := by decide +kernel
theorem dMO_closed_50 : decode cMO_closed 50 = .ok (.aload_n 1, 1) := by decide +kernel
theorem dMO_closed_51 : decode cMO_closed 51 = .ok (.iconst 0, 1) := by decide +kernel
theorem dMO_closed_52 : decode cMO_closed 52 = .ok (.iaload, 1) := by decide +kernel
theorem dMO_closed_53 : decode cMO_closed 53 = .ok (.imul, 1) := by decide +kernel
theorem dMO_closed_54 : decode cMO_closed 54 = .ok (.iadd, 1) := by decide +kernel
theorem dMO_closed_55 : decode cMO_closed 55 = .ok (.bipush 24, 2) := by decide +kernel
theorem dMO_closed_57 : decode cMO_closed 57 = .ok (.aload_n 1, 1) := by decide +kernel
theorem dMO_closed_58 : decode cMO_closed 58 = .ok (.iconst 1, 1) := by decide +kernel
theorem dMO_closed_59 : decode cMO_closed 59 = .ok (.iaload, 1) := by decide +kernel
theorem dMO_closed_60 : decode cMO_closed 60 = .ok (.imul, 1) := by decide +kernel
theorem dMO_closed_61 : decode cMO_closed 61 = .ok (.iadd, 1) := by decide +kernel
theorem dMO_closed_62 : decode cMO_closed 62 = .ok (.aload_n 1, 1) := by decide +kernel
theorem dMO_closed_63 : decode cMO_closed 63 = .ok (.iconst 2, 1) := by decide +kernel
theorem dMO_closed_64 : decode cMO_closed 64 = .ok (.iaload, 1) := by decide +kernel
theorem dMO_closed_65 : decode cMO_closed 65 = .ok (.iadd, 1) := by decide +kernel
theorem dMO_closed_66 : decode cMO_closed 66 = .ok (.ireturn, 1) := by decide +kernel
theorem dMO_isListed_0 : decode cMO_isListed 0 = .ok (.iconst 0, 1) := by decide +kernel
theorem dMO_isListed_1 : decode cMO_isListed 1 = .ok (.istore_n 2, 1) := by decide +kernel
theorem dMO_isListed_2 : decode cMO_isListed 2 = .ok (.iload_n 2, 1) := by decide +kernel
theorem dMO_isListed_3 : decode cMO_isListed 3 = .ok (.aload_n 0, 1) := by decide +kernel
theorem dMO_isListed_4 : decode cMO_isListed 4 = .ok (.getfield 95, 3) := by decide +kernel
theorem dMO_isListed_7 : decode cMO_isListed 7 = .ok (.if_icmp .ge 21, 3) := by decide +kernel
theorem dMO_isListed_10 : decode cMO_isListed 10 = .ok (.aload_n 0, 1) := by decide +kernel
theorem dMO_isListed_11 : decode cMO_isListed 11 = .ok (.getfield 31, 3) := by decide +kernel
theorem dMO_isListed_14 : decode cMO_isListed 14 = .ok (.iload_n 2, 1) := by decide +kernel
theorem dMO_isListed_15 : decode cMO_isListed 15 = .ok (.iaload, 1) := by decide +kernel
theorem dMO_isListed_16 : decode cMO_isListed 16 = .ok (.iload_n 1, 1) := by decide +kernel
theorem dMO_isListed_17 : decode cMO_isListed 17 = .ok (.if_icmp .ne 5, 3) := by decide +kernel
theorem dMO_isListed_20 : decode cMO_isListed 20 = .ok (.iconst 1, 1) := by decide +kernel
theorem dMO_isListed_21 : decode cMO_isListed 21 = .ok (.ireturn, 1) := by decide +kernel
theorem dMO_isListed_22 : decode cMO_isListed 22 = .ok (.iinc 2 1, 3) := by decide +kernel
theorem dMO_isListed_25 : decode cMO_isListed 25 = .ok (.goto (-23), 3) := by decide +kernel
theorem dMO_isListed_28 : decode cMO_isListed 28 = .ok (.iconst 0, 1) := by decide +kernel
theorem dMO_isListed_29 : decode cMO_isListed 29 = .ok (.ireturn, 1) := by decide +kernel
theorem dMO_numbered_0 : decode cMO_numbered 0 = .ok (.iconst 1, 1) := by decide +kernel
theorem dMO_numbered_1 : decode cMO_numbered 1 = .ok (.istore_n 1, 1) := by decide +kernel
theorem dMO_numbered_2 : decode cMO_numbered 2 = .ok (.iload_n 1, 1) := by decide +kernel
theorem dMO_numbered_3 : decode cMO_numbered 3 = .ok (.aload_n 0, 1) := by decide +kernel
theorem dMO_numbered_4 : decode cMO_numbered 4 = .ok (.getfield 95, 3) := by decide +kernel
theorem dMO_numbered_7 : decode cMO_numbered 7 = .ok (.if_icmp .ge 61, 3) := by decide +kernel
theorem dMO_numbered_10 : decode cMO_numbered 10 = .ok (.aload_n 0, 1) := by decide +kernel
theorem dMO_numbered_11 : decode cMO_numbered 11 = .ok (.getfield 31, 3) := by decide +kernel
theorem dMO_numbered_14 : decode cMO_numbered 14 = .ok (.iload_n 1, 1) := by decide +kernel
theorem dMO_numbered_15 : decode cMO_numbered 15 = .ok (.iaload, 1) := by decide +kernel
theorem dMO_numbered_16 : decode cMO_numbered 16 = .ok (.istore_n 2, 1) := by decide +kernel
theorem dMO_numbered_17 : decode cMO_numbered 17 = .ok (.iload_n 1, 1) := by decide +kernel
theorem dMO_numbered_18 : decode cMO_numbered 18 = .ok (.istore_n 3, 1) := by decide +kernel
theorem dMO_numbered_19 : decode cMO_numbered 19 = .ok (.iload_n 3, 1) := by decide +kernel
theorem dMO_numbered_20 : decode cMO_numbered 20 = .ok (.ifCond .le 35, 3) := by decide +kernel
theorem dMO_numbered_23 : decode cMO_numbered 23 = .ok (.aload_n 0, 1) := by decide +kernel
theorem dMO_numbered_24 : decode cMO_numbered 24 = .ok (.getfield 31, 3) := by decide +kernel
theorem dMO_numbered_27 : decode cMO_numbered 27 = .ok (.iload_n 3, 1) := by decide +kernel
theorem dMO_numbered_28 : decode cMO_numbered 28 = .ok (.iconst 1, 1) := by decide +kernel
theorem dMO_numbered_29 : decode cMO_numbered 29 = .ok (.isub, 1) := by decide +kernel
theorem dMO_numbered_30 : decode cMO_numbered 30 = .ok (.iaload, 1) := by decide +kernel
theorem dMO_numbered_31 : decode cMO_numbered 31 = .ok (.iload_n 2, 1) := by decide +kernel
theorem dMO_numbered_32 : decode cMO_numbered 32 = .ok (.if_icmp .le 23, 3) := by decide +kernel
theorem dMO_numbered_35 : decode cMO_numbered 35 = .ok (.aload_n 0, 1) := by decide +kernel
theorem dMO_numbered_36 : decode cMO_numbered 36 = .ok (.getfield 31, 3) := by decide +kernel
theorem dMO_numbered_39 : decode cMO_numbered 39 = .ok (.iload_n 3, 1) := by decide +kernel
theorem dMO_numbered_40 : decode cMO_numbered 40 = .ok (.aload_n 0, 1) := by decide +kernel
theorem dMO_numbered_41 : decode cMO_numbered 41 = .ok (.getfield 31, 3) := by decide +kernel
theorem dMO_numbered_44 : decode cMO_numbered 44 = .ok (.iload_n 3, 1) := by decide +kernel
theorem dMO_numbered_45 : decode cMO_numbered 45 = .ok (.iconst 1, 1) := by decide +kernel
theorem dMO_numbered_46 : decode cMO_numbered 46 = .ok (.isub, 1) := by decide +kernel
theorem dMO_numbered_47 : decode cMO_numbered 47 = .ok (.iaload, 1) := by decide +kernel
theorem dMO_numbered_48 : decode cMO_numbered 48 = .ok (.iastore, 1) := by decide +kernel
theorem dMO_numbered_49 : decode cMO_numbered 49 = .ok (.iinc 3 (-1), 3) := by decide +kernel
theorem dMO_numbered_52 : decode cMO_numbered 52 = .ok (.goto (-33), 3) := by decide +kernel
theorem dMO_numbered_55 : decode cMO_numbered 55 = .ok (.aload_n 0, 1) := by decide +kernel
theorem dMO_numbered_56 : decode cMO_numbered 56 = .ok (.getfield 31, 3) := by decide +kernel
theorem dMO_numbered_59 : decode cMO_numbered 59 = .ok (.iload_n 3, 1) := by decide +kernel
theorem dMO_numbered_60 : decode cMO_numbered 60 = .ok (.iload_n 2, 1) := by decide +kernel
theorem dMO_numbered_61 : decode cMO_numbered 61 = .ok (.iastore, 1) := by decide +kernel
theorem dMO_numbered_62 : decode cMO_numbered 62 = .ok (.iinc 1 1, 3) := by decide +kernel
theorem dMO_numbered_65 : decode cMO_numbered 65 = .ok (.goto (-63), 3) := by decide +kernel
theorem dMO_numbered_68 : decode cMO_numbered 68 = .ok (.iconst 0, 1) := by decide +kernel
theorem dMO_numbered_69 : decode cMO_numbered 69 = .ok (.istore_n 1, 1) := by decide +kernel
theorem dMO_numbered_70 : decode cMO_numbered 70 = .ok (.iload_n 1, 1) := by decide +kernel
theorem dMO_numbered_71 : decode cMO_numbered 71 = .ok (.aload_n 0, 1) := by decide +kernel
theorem dMO_numbered_72 : decode cMO_numbered 72 = .ok (.getfield 88, 3) := by decide +kernel
theorem dMO_numbered_75 : decode cMO_numbered 75 = .ok (.if_icmp .ge 81, 3) := by decide +kernel
theorem dMO_numbered_78 : decode cMO_numbered 78 = .ok (.aload_n 0, 1) := by decide +kernel
theorem dMO_numbered_79 : decode cMO_numbered 79 = .ok (.getfield 28, 3) := by decide +kernel
theorem dMO_numbered_82 : decode cMO_numbered 82 = .ok (.iload_n 1, 1) := by decide +kernel
theorem dMO_numbered_83 : decode cMO_numbered 83 = .ok (.iaload, 1) := by decide +kernel
theorem dMO_numbered_84 : decode cMO_numbered 84 = .ok (.aload_n 0, 1) := by decide +kernel
theorem dMO_numbered_85 : decode cMO_numbered 85 = .ok (.getfield 95, 3) := by decide +kernel
theorem dMO_numbered_88 : decode cMO_numbered 88 = .ok (.if_icmp .ne 7, 3) := by decide +kernel
theorem dMO_numbered_91 : decode cMO_numbered 91 = .ok (.iconst 1, 1) := by decide +kernel
theorem dMO_numbered_92 : decode cMO_numbered 92 = .ok (.goto 4, 3) := by decide +kernel
theorem dMO_numbered_95 : decode cMO_numbered 95 = .ok (.iconst 0, 1) := by decide +kernel
theorem dMO_numbered_96 : decode cMO_numbered 96 = .ok (.istore_n 2, 1) := by decide +kernel
theorem dMO_numbered_97 : decode cMO_numbered 97 = .ok (.iconst 0, 1) := by decide +kernel
theorem dMO_numbered_98 : decode cMO_numbered 98 = .ok (.istore_n 3, 1) := by decide +kernel
theorem dMO_numbered_99 : decode cMO_numbered 99 = .ok (.iload_n 3, 1) := by decide +kernel
theorem dMO_numbered_100 : decode cMO_numbered 100 = .ok (.aload_n 0, 1) := by decide +kernel
theorem dMO_numbered_101 : decode cMO_numbered 101 = .ok (.getfield 95, 3) := by decide +kernel
theorem dMO_numbered_104 : decode cMO_numbered 104 = .ok (.if_icmp .ge 40, 3) := by decide +kernel
theorem dMO_numbered_107 : decode cMO_numbered 107 = .ok (.iload_n 2, 1) := by decide +kernel
theorem dMO_numbered_108 : decode cMO_numbered 108 = .ok (.ifCond .eq 36, 3) := by decide +kernel
theorem dMO_numbered_111 : decode cMO_numbered 111 = .ok (.aload_n 0, 1) := by decide +kernel
theorem dMO_numbered_112 : decode cMO_numbered 112 = .ok (.getfield 25, 3) := by decide +kernel
theorem dMO_numbered_115 : decode cMO_numbered 115 = .ok (.sipush 192, 3) := by decide +kernel
theorem dMO_numbered_118 : decode cMO_numbered 118 = .ok (.iload_n 1, 1) := by decide +kernel
theorem dMO_numbered_119 : decode cMO_numbered 119 = .ok (.imul, 1) := by decide +kernel
theorem dMO_numbered_120 : decode cMO_numbered 120 = .ok (.iload_n 3, 1) := by decide +kernel
theorem dMO_numbered_121 : decode cMO_numbered 121 = .ok (.iadd, 1) := by decide +kernel
theorem dMO_numbered_122 : decode cMO_numbered 122 = .ok (.iaload, 1) := by decide +kernel
theorem dMO_numbered_123 : decode cMO_numbered 123 = .ok (.aload_n 0, 1) := by decide +kernel
theorem dMO_numbered_124 : decode cMO_numbered 124 = .ok (.getfield 31, 3) := by decide +kernel
theorem dMO_numbered_127 : decode cMO_numbered 127 = .ok (.iload_n 3, 1) := by decide +kernel
theorem dMO_numbered_128 : decode cMO_numbered 128 = .ok (.iaload, 1) := by decide +kernel
theorem dMO_numbered_129 : decode cMO_numbered 129 = .ok (.if_icmp .ne 7, 3) := by decide +kernel
theorem dMO_numbered_132 : decode cMO_numbered 132 = .ok (.iconst 1, 1) := by decide +kernel
theorem dMO_numbered_133 : decode cMO_numbered 133 = .ok (.goto 4, 3) := by decide +kernel
theorem dMO_numbered_136 : decode cMO_numbered 136 = .ok (.iconst 0, 1) := by decide +kernel
theorem dMO_numbered_137 : decode cMO_numbered 137 = .ok (.istore_n 2, 1) := by decide +kernel
theorem dMO_numbered_138 : decode cMO_numbered 138 = .ok (.iinc 3 1, 3) := by decide +kernel
theorem dMO_numbered_141 : decode cMO_numbered 141 = .ok (.goto (-42), 3) := by decide +kernel
theorem dMO_numbered_144 : decode cMO_numbered 144 = .ok (.iload_n 2, 1) := by decide +kernel
theorem dMO_numbered_145 : decode cMO_numbered 145 = .ok (.ifCond .eq 5, 3) := by decide +kernel
theorem dMO_numbered_148 : decode cMO_numbered 148 = .ok (.iload_n 1, 1) := by decide +kernel
theorem dMO_numbered_149 : decode cMO_numbered 149 = .ok (.ireturn, 1) := by decide +kernel
theorem dMO_numbered_150 : decode cMO_numbered 150 = .ok (.iinc 1 1, 3) := by decide +kernel
theorem dMO_numbered_153 : decode cMO_numbered 153 = .ok (.goto (-83), 3) := by decide +kernel
theorem dMO_numbered_156 : decode cMO_numbered 156 = .ok (.aload_n 0, 1) := by decide +kernel
theorem dMO_numbered_157 : decode cMO_numbered 157 = .ok (.getfield 88, 3) := by decide +kernel
theorem dMO_numbered_160 : decode cMO_numbered 160 = .ok (.bipush 40, 2) := by decide +kernel
theorem dMO_numbered_162 : decode cMO_numbered 162 = .ok (.if_icmp .ne 5, 3) := by decide +kernel
theorem dMO_numbered_165 : decode cMO_numbered 165 = .ok (.iconst (-1), 1) := by decide +kernel
theorem dMO_numbered_166 : decode cMO_numbered 166 = .ok (.ireturn, 1) := by decide +kernel
theorem dMO_numbered_167 : decode cMO_numbered 167 = .ok (.iconst 0, 1) := by decide +kernel
theorem dMO_numbered_168 : decode cMO_numbered 168 = .ok (.istore_n 1, 1) := by decide +kernel
theorem dMO_numbered_169 : decode cMO_numbered 169 = .ok (.iload_n 1, 1) := by decide +kernel
theorem dMO_numbered_170 : decode cMO_numbered 170 = .ok (.aload_n 0, 1) := by decide +kernel
theorem dMO_numbered_171 : decode cMO_numbered 171 = .ok (.getfield 95, 3) := by decide +kernel
theorem dMO_numbered_174 : decode cMO_numbered 174 = .ok (.if_icmp .ge 30, 3) := by decide +kernel
theorem dMO_numbered_177 : decode cMO_numbered 177 = .ok (.aload_n 0, 1) := by decide +kernel
theorem dMO_numbered_178 : decode cMO_numbered 178 = .ok (.getfield 25, 3) := by decide +kernel
theorem dMO_numbered_181 : decode cMO_numbered 181 = .ok (.sipush 192, 3) := by decide +kernel
theorem dMO_numbered_184 : decode cMO_numbered 184 = .ok (.aload_n 0, 1) := by decide +kernel
theorem dMO_numbered_185 : decode cMO_numbered 185 = .ok (.getfield 88, 3) := by decide +kernel
theorem dMO_numbered_188 : decode cMO_numbered 188 = .ok (.imul, 1) := by decide +kernel
theorem dMO_numbered_189 : decode cMO_numbered 189 = .ok (.iload_n 1, 1) := by decide +kernel
theorem dMO_numbered_190 : decode cMO_numbered 190 = .ok (.iadd, 1) := by decide +kernel
theorem dMO_numbered_191 : decode cMO_numbered 191 = .ok (.aload_n 0, 1) := by decide +kernel
theorem dMO_numbered_192 : decode cMO_numbered 192 = .ok (.getfield 31, 3) := by decide +kernel
theorem dMO_numbered_195 : decode cMO_numbered 195 = .ok (.iload_n 1, 1) := by decide +kernel
theorem dMO_numbered_196 : decode cMO_numbered 196 = .ok (.iaload, 1) := by decide +kernel
theorem dMO_numbered_197 : decode cMO_numbered 197 = .ok (.iastore, 1) := by decide +kernel
theorem dMO_numbered_198 : decode cMO_numbered 198 = .ok (.iinc 1 1, 3) := by decide +kernel
theorem dMO_numbered_201 : decode cMO_numbered 201 = .ok (.goto (-32), 3) := by decide +kernel
theorem dMO_numbered_204 : decode cMO_numbered 204 = .ok (.aload_n 0, 1) := by decide +kernel
theorem dMO_numbered_205 : decode cMO_numbered 205 = .ok (.getfield 28, 3) := by decide +kernel
theorem dMO_numbered_208 : decode cMO_numbered 208 = .ok (.aload_n 0, 1) := by decide +kernel
theorem dMO_numbered_209 : decode cMO_numbered 209 = .ok (.getfield 88, 3) := by decide +kernel
theorem dMO_numbered_212 : decode cMO_numbered 212 = .ok (.aload_n 0, 1) := by decide +kernel
theorem dMO_numbered_213 : decode cMO_numbered 213 = .ok (.getfield 95, 3) := by decide +kernel
theorem dMO_numbered_216 : decode cMO_numbered 216 = .ok (.iastore, 1) := by decide +kernel
theorem dMO_numbered_217 : decode cMO_numbered 217 = .ok (.aload_n 0, 1) := by decide +kernel
theorem dMO_numbered_218 : decode cMO_numbered 218 = .ok (.dup, 1) := by decide +kernel
theorem dMO_numbered_219 : decode cMO_numbered 219 = .ok (.getfield 88, 3) := by decide +kernel
theorem dMO_numbered_222 : decode cMO_numbered 222 = .ok (.iconst 1, 1) := by decide +kernel
theorem dMO_numbered_223 : decode cMO_numbered 223 = .ok (.iadd, 1) := by decide +kernel
theorem dMO_numbered_224 : decode cMO_numbered 224 = .ok (.putfield 88, 3) := by decide +kernel
theorem dMO_numbered_227 : decode cMO_numbered 227 = .ok (.aload_n 0, 1) := by decide +kernel
theorem dMO_numbered_228 : decode cMO_numbered 228 = .ok (.getfield 88, 3) := by decide +kernel
