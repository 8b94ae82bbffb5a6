/-! decode rows: written by wip/whole/names.py -/
theorem dGR_keys_0 : decode cGR_keys 0 = .ok (.aload_n 0, 1) := by decide +kernel
theorem dGR_keys_1 : decode cGR_keys 1 = .ok (.getfield 28, 3) := by decide +kernel
theorem dGR_keys_4 : decode cGR_keys 4 = .ok (.areturn, 1) := by decide +kernel
theorem dGR_init_0 : decode cGR_init 0 = .ok (.aload_n 0, 1) := by decide +kernel
theorem dGR_init_1 : decode cGR_init 1 = .ok (.invokespecial 3, 3) := by decide +kernel
theorem dGR_init_4 : decode cGR_init 4 = .ok (.aload_n 0, 1) := by decide +kernel
theorem dGR_init_5 : decode cGR_init 5 = .ok (.aconst_null, 1) := by decide +kernel
theorem dGR_init_6 : decode cGR_init 6 = .ok (.putfield 9, 3) := by decide +kernel
theorem dGR_init_9 : decode cGR_init 9 = .ok (.aload_n 0, 1) := by decide +kernel
theorem dGR_init_10 : decode cGR_init 10 = .ok (.aconst_null, 1) := by decide +kernel
theorem dGR_init_11 : decode cGR_init 11 = .ok (.putfield 15, 3) := by decide +kernel
theorem dGR_init_14 : decode cGR_init 14 = .ok (.aload_n 0, 1) := by decide +kernel
theorem dGR_init_15 : decode cGR_init 15 = .ok (.new 19, 3) := by decide +kernel
theorem dGR_init_18 : decode cGR_init 18 = .ok (.dup, 1) := by decide +kernel
theorem dGR_init_19 : decode cGR_init 19 = .ok (.aload_n 1, 1) := by decide +kernel
theorem dGR_init_20 : decode cGR_init 20 = .ok (.invokevirtual 21, 3) := by decide +kernel
theorem dGR_init_23 : decode cGR_init 23 = .ok (.invokespecial 25, 3) := by decide +kernel
theorem dGR_init_26 : decode cGR_init 26 = .ok (.putfield 28, 3) := by decide +kernel
theorem dGR_init_29 : decode cGR_init 29 = .ok (.iconst 0, 1) := by decide +kernel
theorem dGR_init_30 : decode cGR_init 30 = .ok (.istore_n 3, 1) := by decide +kernel
theorem dGR_init_31 : decode cGR_init 31 = .ok (.iconst 0, 1) := by decide +kernel
theorem dGR_init_32 : decode cGR_init 32 = .ok (.istore 4, 2) := by decide +kernel
theorem dGR_init_34 : decode cGR_init 34 = .ok (.iconst (-1), 1) := by decide +kernel
theorem dGR_init_35 : decode cGR_init 35 = .ok (.istore 5, 2) := by decide +kernel
theorem dGR_init_37 : decode cGR_init 37 = .ok (.iconst 0, 1) := by decide +kernel
theorem dGR_init_38 : decode cGR_init 38 = .ok (.istore 6, 2) := by decide +kernel
theorem dGR_init_40 : decode cGR_init 40 = .ok (.iload 6, 2) := by decide +kernel
theorem dGR_init_42 : decode cGR_init 42 = .ok (.aload_n 1, 1) := by decide +kernel
theorem dGR_init_43 : decode cGR_init 43 = .ok (.invokevirtual 21, 3) := by decide +kernel
theorem dGR_init_46 : decode cGR_init 46 = .ok (.if_icmp .ge 72, 3) := by decide +kernel
theorem dGR_init_49 : decode cGR_init 49 = .ok (.aload_n 1, 1) := by decide +kernel
theorem dGR_init_50 : decode cGR_init 50 = .ok (.iload 6, 2) := by decide +kernel
theorem dGR_init_52 : decode cGR_init 52 = .ok (.invokevirtual 32, 3) := by decide +kernel
theorem dGR_init_55 : decode cGR_init 55 = .ok (.sipush 13824, 3) := by decide +kernel
theorem dGR_init_58 : decode cGR_init 58 = .ok (.idiv, 1) := by decide +kernel
theorem dGR_init_59 : decode cGR_init 59 = .ok (.istore 7, 2) := by decide +kernel
theorem dGR_init_61 : decode cGR_init 61 = .ok (.aload_n 0, 1) := by decide +kernel
theorem dGR_init_62 : decode cGR_init 62 = .ok (.getfield 28, 3) := by decide +kernel
theorem dGR_init_65 : decode cGR_init 65 = .ok (.aload_n 1, 1) := by decide +kernel
theorem dGR_init_66 : decode cGR_init 66 = .ok (.iload 6, 2) := by decide +kernel
theorem dGR_init_68 : decode cGR_init 68 = .ok (.invokevirtual 32, 3) := by decide +kernel
theorem dGR_init_71 : decode cGR_init 71 = .ok (.invokevirtual 36, 3) := by decide +kernel
theorem dGR_init_74 : decode cGR_init 74 = .ok (.pop, 1) := by decide +kernel
theorem dGR_init_75 : decode cGR_init 75 = .ok (.iload_n 3, 1) := by decide +kernel
theorem dGR_init_76 : decode cGR_init 76 = .ok (.iload 7, 2) := by decide +kernel
theorem dGR_init_78 : decode cGR_init 78 = .ok (.iload 5, 2) := by decide +kernel
theorem dGR_init_80 : decode cGR_init 80 = .ok (.if_icmp .ne 7, 3) := by decide +kernel
theorem dGR_init_83 : decode cGR_init 83 = .ok (.iconst 0, 1) := by decide +kernel
theorem dGR_init_84 : decode cGR_init 84 = .ok (.goto 4, 3) := by decide +kernel
theorem dGR_init_87 : decode cGR_init 87 = .ok (.iconst 1, 1) := by decide +kernel
theorem dGR_init_88 : decode cGR_init 88 = .ok (.iadd, 1) := by decide +kernel
theorem dGR_init_89 : decode cGR_init 89 = .ok (.istore_n 3, 1) := by decide +kernel
theorem dGR_init_90 : decode cGR_init 90 = .ok (.iload 4, 2) := by decide +kernel
theorem dGR_init_92 : decode cGR_init 92 = .ok (.iload 7, 2) := by decide +kernel
theorem dGR_init_94 : decode cGR_init 94 = .ok (.sipush 16484, 3) := by decide +kernel
theorem dGR_init_97 : decode cGR_init 97 = .ok (.if_icmp .ne 7, 3) := by decide +kernel
theorem dGR_init_100 : decode cGR_init 100 = .ok (.iconst 1, 1) := by decide +kernel
theorem dGR_init_101 : decode cGR_init 101 = .ok (.goto 4, 3) := by decide +kernel
theorem dGR_init_104 : decode cGR_init 104 = .ok (.iconst 0, 1) := by decide +kernel
theorem dGR_init_105 : decode cGR_init 105 = .ok (.iadd, 1) := by decide +kernel
theorem dGR_init_106 : decode cGR_init 106 = .ok (.istore 4, 2) := by decide +kernel
theorem dGR_init_108 : decode cGR_init 108 = .ok (.iload 7, 2) := by decide +kernel
theorem dGR_init_110 : decode cGR_init 110 = .ok (.istore 5, 2) := by decide +kernel
theorem dGR_init_112 : decode cGR_init 112 = .ok (.iinc 6 1, 3) := by decide +kernel
theorem dGR_init_115 : decode cGR_init 115 = .ok (.goto (-75), 3) := by decide +kernel
theorem dGR_init_118 : decode cGR_init 118 = .ok (.aload_n 0, 1) := by decide +kernel
theorem dGR_init_119 : decode cGR_init 119 = .ok (.iload_n 3, 1) := by decide +kernel
theorem dGR_init_120 : decode cGR_init 120 = .ok (.putfield 40, 3) := by decide +kernel
theorem dGR_init_123 : decode cGR_init 123 = .ok (.aload_n 0, 1) := by decide +kernel
theorem dGR_init_124 : decode cGR_init 124 = .ok (.iload 4, 2) := by decide +kernel
theorem dGR_init_126 : decode cGR_init 126 = .ok (.putfield 44, 3) := by decide +kernel
theorem dGR_init_129 : decode cGR_init 129 = .ok (.aload_n 0, 1) := by decide +kernel
theorem dGR_init_130 : decode cGR_init 130 = .ok (.aload_n 0, 1) := by decide +kernel
theorem dGR_init_131 : decode cGR_init 131 = .ok (.getfield 28, 3) := by decide +kernel
theorem dGR_init_134 : decode cGR_init 134 = .ok (.iload 4, 2) := by decide +kernel
theorem dGR_init_136 : decode cGR_init 136 = .ok (.invokestatic 47, 3) := by decide +kernel
theorem dGR_init_139 : decode cGR_init 139 = .ok (.putfield 51, 3) := by decide +kernel
theorem dGR_init_142 : decode cGR_init 142 = .ok (.aload_n 0, 1) := by decide +kernel
theorem dGR_init_143 : decode cGR_init 143 = .ok (.aload_n 0, 1) := by decide +kernel
theorem dGR_init_144 : decode cGR_init 144 = .ok (.getfield 28, 3) := by decide +kernel
theorem dGR_init_147 : decode cGR_init 147 = .ok (.aload_n 2, 1) := by decide +kernel
theorem dGR_init_148 : decode cGR_init 148 = .ok (.invokestatic 54, 3) := by decide +kernel
theorem dGR_init_151 : decode cGR_init 151 = .ok (.putfield 58, 3) := by decide +kernel
theorem dGR_init_154 : decode cGR_init 154 = .ok (.return_, 1) := by decide +kernel
theorem dGR_letterOf_0 : decode cGR_letterOf 0 = .ok (.aload_n 0, 1) := by decide +kernel
theorem dGR_letterOf_1 : decode cGR_letterOf 1 = .ok (.ldc 69, 2) := by decide +kernel
theorem dGR_letterOf_3 : decode cGR_letterOf 3 = .ok (.invokevirtual 70, 3) := by decide +kernel
theorem dGR_letterOf_6 : decode cGR_letterOf 6 = .ok (.istore_n 2, 1) := by decide +kernel
theorem dGR_letterOf_7 : decode cGR_letterOf 7 = .ok (.aload_n 0, 1) := by decide +kernel
theorem dGR_letterOf_8 : decode cGR_letterOf 8 = .ok (.iload_n 2, 1) := by decide +kernel
theorem dGR_letterOf_9 : decode cGR_letterOf 9 = .ok (.iconst 1, 1) := by decide +kernel
theorem dGR_letterOf_10 : decode cGR_letterOf 10 = .ok (.iadd, 1) := by decide +kernel
theorem dGR_letterOf_11 : decode cGR_letterOf 11 = .ok (.invokevirtual 32, 3) := by decide +kernel
theorem dGR_letterOf_14 : decode cGR_letterOf 14 = .ok (.ldc 69, 2) := by decide +kernel
theorem dGR_letterOf_16 : decode cGR_letterOf 16 = .ok (.isub, 1) := by decide +kernel
theorem dGR_letterOf_17 : decode cGR_letterOf 17 = .ok (.istore_n 3, 1) := by decide +kernel
theorem dGR_letterOf_18 : decode cGR_letterOf 18 = .ok (.aload_n 0, 1) := by decide +kernel
theorem dGR_letterOf_19 : decode cGR_letterOf 19 = .ok (.iload_n 2, 1) := by decide +kernel
theorem dGR_letterOf_20 : decode cGR_letterOf 20 = .ok (.iconst 2, 1) := by decide +kernel
theorem dGR_letterOf_21 : decode cGR_letterOf 21 = .ok (.iadd, 1) := by decide +kernel
theorem dGR_letterOf_22 : decode cGR_letterOf 22 = .ok (.invokevirtual 32, 3) := by decide +kernel
theorem dGR_letterOf_25 : decode cGR_letterOf 25 = .ok (.ldc 69, 2) := by decide +kernel
theorem dGR_letterOf_27 : decode cGR_letterOf 27 = .ok (.isub, 1) := by decide +kernel
theorem dGR_letterOf_28 : decode cGR_letterOf 28 = .ok (.istore 4, 2) := by decide +kernel
theorem dGR_letterOf_30 : decode cGR_letterOf 30 = .ok (.aload_n 0, 1) := by decide +kernel
theorem dGR_letterOf_31 : decode cGR_letterOf 31 = .ok (.iload_n 2, 1) := by decide +kernel
theorem dGR_letterOf_32 : decode cGR_letterOf 32 = .ok (.iconst 3, 1) := by decide +kernel
theorem dGR_letterOf_33 : decode cGR_letterOf 33 = .ok (.iadd, 1) := by decide +kernel
theorem dGR_letterOf_34 : decode cGR_letterOf 34 = .ok (.invokevirtual 32, 3) := by decide +kernel
theorem dGR_letterOf_37 : decode cGR_letterOf 37 = .ok (.ldc 69, 2) := by decide +kernel
theorem dGR_letterOf_39 : decode cGR_letterOf 39 = .ok (.isub, 1) := by decide +kernel
theorem dGR_letterOf_40 : decode cGR_letterOf 40 = .ok (.istore 5, 2) := by decide +kernel
theorem dGR_letterOf_42 : decode cGR_letterOf 42 = .ok (.iload_n 1, 1) := by decide +kernel
theorem dGR_letterOf_43 : decode cGR_letterOf 43 = .ok (.tableswitch 107 1 4 #[29, 31, 36, 77], 29) := by decide +kernel
theorem dGR_letterOf_72 : decode cGR_letterOf 72 = .ok (.iconst 0, 1) := by decide +kernel
theorem dGR_letterOf_73 : decode cGR_letterOf 73 = .ok (.ireturn, 1) := by decide +kernel
theorem dGR_letterOf_74 : decode cGR_letterOf 74 = .ok (.iload_n 3, 1) := by decide +kernel
theorem dGR_letterOf_75 : decode cGR_letterOf 75 = .ok (.invokestatic 73, 3) := by decide +kernel
theorem dGR_letterOf_78 : decode cGR_letterOf 78 = .ok (.ireturn, 1) := by decide +kernel
theorem dGR_letterOf_79 : decode cGR_letterOf 79 = .ok (.iload_n 3, 1) := by decide +kernel
theorem dGR_letterOf_80 : decode cGR_letterOf 80 = .ok (.sipush 5008, 3) := by decide +kernel
theorem dGR_letterOf_83 : decode cGR_letterOf 83 = .ok (.if_icmp .ne 14, 3) := by decide +kernel
theorem dGR_letterOf_86 : decode cGR_letterOf 86 = .ok (.iload 4, 2) := by decide +kernel
theorem dGR_letterOf_88 : decode cGR_letterOf 88 = .ok (.sipush 9416, 3) := by decide +kernel
theorem dGR_letterOf_91 : decode cGR_letterOf 91 = .ok (.if_icmp .ne 6, 3) := by decide +kernel
theorem dGR_letterOf_94 : decode cGR_letterOf 94 = .ok (.bipush 6, 2) := by decide +kernel
theorem dGR_letterOf_96 : decode cGR_letterOf 96 = .ok (.ireturn, 1) := by decide +kernel
theorem dGR_letterOf_97 : decode cGR_letterOf 97 = .ok (.iload_n 3, 1) := by decide +kernel
theorem dGR_letterOf_98 : decode cGR_letterOf 98 = .ok (.sipush 5000, 3) := by decide +kernel
theorem dGR_letterOf_101 : decode cGR_letterOf 101 = .ok (.if_icmp .ne 16, 3) := by decide +kernel
theorem dGR_letterOf_104 : decode cGR_letterOf 104 = .ok (.iload 4, 2) := by decide +kernel
theorem dGR_letterOf_106 : decode cGR_letterOf 106 = .ok (.sipush 9424, 3) := by decide +kernel
theorem dGR_letterOf_109 : decode cGR_letterOf 109 = .ok (.if_icmp .ne 8, 3) := by decide +kernel
theorem dGR_letterOf_112 : decode cGR_letterOf 112 = .ok (.bipush 7, 2) := by decide +kernel
theorem dGR_letterOf_114 : decode cGR_letterOf 114 = .ok (.goto 5, 3) := by decide +kernel
theorem dGR_letterOf_117 : decode cGR_letterOf 117 = .ok (.bipush 8, 2) := by decide +kernel
theorem dGR_letterOf_119 : decode cGR_letterOf 119 = .ok (.ireturn, 1) := by decide +kernel
theorem dGR_letterOf_120 : decode cGR_letterOf 120 = .ok (.iload_n 3, 1) := by decide +kernel
theorem dGR_letterOf_121 : decode cGR_letterOf 121 = .ok (.sipush 300, 3) := by decide +kernel
theorem dGR_letterOf_124 : decode cGR_letterOf 124 = .ok (.if_icmp .ne 23, 3) := by decide +kernel
theorem dGR_letterOf_127 : decode cGR_letterOf 127 = .ok (.iload 4, 2) := by decide +kernel
theorem dGR_letterOf_129 : decode cGR_letterOf 129 = .ok (.sipush 6924, 3) := by decide +kernel
theorem dGR_letterOf_132 : decode cGR_letterOf 132 = .ok (.if_icmp .ne 15, 3) := by decide +kernel
theorem dGR_letterOf_135 : decode cGR_letterOf 135 = .ok (.iload 5, 2) := by decide +kernel
theorem dGR_letterOf_137 : decode cGR_letterOf 137 = .ok (.sipush 7200, 3) := by decide +kernel
theorem dGR_letterOf_140 : decode cGR_letterOf 140 = .ok (.if_icmp .ne 7, 3) := by decide +kernel
theorem dGR_letterOf_143 : decode cGR_letterOf 143 = .ok (.iconst 5, 1) := by decide +kernel
theorem dGR_letterOf_144 : decode cGR_letterOf 144 = .ok (.goto 5, 3) := by decide +kernel
theorem dGR_letterOf_147 : decode cGR_letterOf 147 = .ok (.bipush 8, 2) := by decide +kernel
theorem dGR_letterOf_149 : decode cGR_letterOf 149 = .ok (.ireturn, 1) := by decide +kernel
theorem dGR_letterOf_150 : decode cGR_letterOf 150 = .ok (.bipush 8, 2) := by decide +kernel
theorem dGR_letterOf_152 : decode cGR_letterOf 152 = .ok (.ireturn, 1) := by decide +kernel
theorem dGR_letterOfTwo_0 : decode cGR_letterOfTwo 0 = .ok (.iload_n 0, 1) := by decide +kernel
theorem dGR_letterOfTwo_1 : decode cGR_letterOfTwo 1 = .ok (.lookupswitch 51 #[(300, 43), (6924, 45), (7200, 47), (7212, 49)], 43) := by decide +kernel
theorem dGR_letterOfTwo_44 : decode cGR_letterOfTwo 44 = .ok (.iconst 1, 1) := by decide +kernel
theorem dGR_letterOfTwo_45 : decode cGR_letterOfTwo 45 = .ok (.ireturn, 1) := by decide +kernel
theorem dGR_letterOfTwo_46 : decode cGR_letterOfTwo 46 = .ok (.iconst 2, 1) := by decide +kernel
theorem dGR_letterOfTwo_47 : decode cGR_letterOfTwo 47 = .ok (.ireturn, 1) := by decide +kernel
theorem dGR_letterOfTwo_48 : decode cGR_letterOfTwo 48 = .ok (.iconst 3, 1) := by decide +kernel
theorem dGR_letterOfTwo_49 : decode cGR_letterOfTwo 49 = .ok (.ireturn, 1) := by decide +kernel
theorem dGR_letterOfTwo_50 : decode cGR_letterOfTwo 50 = .ok (.iconst 4, 1) := by decide +kernel
theorem dGR_letterOfTwo_51 : decode cGR_letterOfTwo 51 = .ok (.ireturn, 1) := by decide +kernel
theorem dGR_letterOfTwo_52 : decode cGR_letterOfTwo 52 = .ok (.bipush 8, 2) := by decide +kernel
theorem dGR_letterOfTwo_54 : decode cGR_letterOfTwo 54 = .ok (.ireturn, 1) := by decide +kernel
theorem dGR_matrices_0 : decode cGR_matrices 0 = .ok (.aload_n 0, 1) := by decide +kernel
theorem dGR_matrices_1 : decode cGR_matrices 1 = .ok (.getfield 40, 3) := by decide +kernel
theorem dGR_matrices_4 : decode cGR_matrices 4 = .ok (.ireturn, 1) := by decide +kernel
theorem dGR_centrings_0 : decode cGR_centrings 0 = .ok (.aload_n 0, 1) := by decide +kernel
theorem dGR_centrings_1 : decode cGR_centrings 1 = .ok (.getfield 44, 3) := by decide +kernel
theorem dGR_centrings_4 : decode cGR_centrings 4 = .ok (.ireturn, 1) := by decide +kernel
theorem dGR_letter_0 : decode cGR_letter 0 = .ok (.aload_n 0, 1) := by decide +kernel
theorem dGR_letter_1 : decode cGR_letter 1 = .ok (.getfield 51, 3) := by decide +kernel
theorem dGR_letter_4 : decode cGR_letter 4 = .ok (.ireturn, 1) := by decide +kernel
theorem dGR_pointClass_0 : decode cGR_pointClass 0 = .ok (.aload_n 0, 1) := by decide +kernel
theorem dGR_pointClass_1 : decode cGR_pointClass 1 = .ok (.getfield 58, 3) := by decide +kernel
theorem dGR_pointClass_4 : decode cGR_pointClass 4 = .ok (.ireturn, 1) := by decide +kernel
theorem dGR_alikeSets_0 : decode cGR_alikeSets 0 = .ok (.aload_n 0, 1) := by decide +kernel
theorem dGR_alikeSets_1 : decode cGR_alikeSets 1 = .ok (.getfield 9, 3) := by decide +kernel
theorem dGR_alikeSets_4 : decode cGR_alikeSets 4 = .ok (.ifnonnull 20, 3) := by decide +kernel
theorem dGR_alikeSets_7 : decode cGR_alikeSets 7 = .ok (.aload_n 0, 1) := by decide +kernel
theorem dGR_alikeSets_8 : decode cGR_alikeSets 8 = .ok (.new 61, 3) := by decide +kernel
theorem dGR_alikeSets_11 : decode cGR_alikeSets 11 = .ok (.dup, 1) := by decide +kernel
theorem dGR_alikeSets_12 : decode cGR_alikeSets 12 = .ok (.aload_n 0, 1) := by decide +kernel
theorem dGR_alikeSets_13 : decode cGR_alikeSets 13 = .ok (.getfield 28, 3) := by decide +kernel
theorem dGR_alikeSets_16 : decode cGR_alikeSets 16 = .ok (.aload_n 1, 1) := by decide +kernel
theorem dGR_alikeSets_17 : decode cGR_alikeSets 17 = .ok (.aload_n 2, 1) := by decide +kernel
theorem dGR_alikeSets_18 : decode cGR_alikeSets 18 = .ok (.invokespecial 63, 3) := by decide +kernel
theorem dGR_alikeSets_21 : decode cGR_alikeSets 21 = .ok (.putfield 9, 3) := by decide +kernel
theorem dGR_alikeSets_24 : decode cGR_alikeSets 24 = .ok (.aload_n 0, 1) := by decide +kernel
theorem dGR_alikeSets_25 : decode cGR_alikeSets 25 = .ok (.getfield 9, 3) := by decide +kernel
theorem dGR_alikeSets_28 : decode cGR_alikeSets 28 = .ok (.areturn, 1) := by decide +kernel
theorem dGR_halves_0 : decode cGR_halves 0 = .ok (.aload_n 0, 1) := by decide +kernel
theorem dGR_halves_1 : decode cGR_halves 1 = .ok (.getfield 15, 3) := by decide +kernel
theorem dGR_halves_4 : decode cGR_halves 4 = .ok (.ifnonnull 20, 3) := by decide +kernel
theorem dGR_halves_7 : decode cGR_halves 7 = .ok (.aload_n 0, 1) := by decide +kernel
theorem dGR_halves_8 : decode cGR_halves 8 = .ok (.new 66, 3) := by decide +kernel
theorem dGR_halves_11 : decode cGR_halves 11 = .ok (.dup, 1) := by decide +kernel
theorem dGR_halves_12 : decode cGR_halves 12 = .ok (.aload_n 0, 1) := by decide +kernel
theorem dGR_halves_13 : decode cGR_halves 13 = .ok (.getfield 28, 3) := by decide +kernel
theorem dGR_halves_16 : decode cGR_halves 16 = .ok (.aload_n 1, 1) := by decide +kernel
theorem dGR_halves_17 : decode cGR_halves 17 = .ok (.aload_n 2, 1) := by decide +kernel
theorem dGR_halves_18 : decode cGR_halves 18 = .ok (.invokespecial 68, 3) := by decide +kernel
theorem dGR_halves_21 : decode cGR_halves 21 = .ok (.putfield 15, 3) := by decide +kernel
theorem dGR_halves_24 : decode cGR_halves 24 = .ok (.aload_n 0, 1) := by decide +kernel
theorem dGR_halves_25 : decode cGR_halves 25 = .ok (.getfield 15, 3) := by decide +kernel
theorem dGR_halves_28 : decode cGR_halves 28 = .ok (.areturn, 1) := by decide +kernel
