/-! decode rows: written by wip/whole/names.py -/
theorem dBE_init_0 : decode cBE_init 0 = .ok (.aload_n 0, 1) := by decide +kernel
theorem dBE_init_1 : decode cBE_init 1 = .ok (.invokespecial 3, 3) := by decide +kernel
theorem dBE_init_4 : decode cBE_init 4 = .ok (.aload_n 0, 1) := by decide +kernel
theorem dBE_init_5 : decode cBE_init 5 = .ok (.bipush 9, 2) := by decide +kernel
theorem dBE_init_7 : decode cBE_init 7 = .ok (.newarray .int, 2) := by decide +kernel
theorem dBE_init_9 : decode cBE_init 9 = .ok (.putfield 9, 3) := by decide +kernel
theorem dBE_init_12 : decode cBE_init 12 = .ok (.aload_n 0, 1) := by decide +kernel
theorem dBE_init_13 : decode cBE_init 13 = .ok (.bipush 9, 2) := by decide +kernel
theorem dBE_init_15 : decode cBE_init 15 = .ok (.newarray .int, 2) := by decide +kernel
theorem dBE_init_17 : decode cBE_init 17 = .ok (.putfield 15, 3) := by decide +kernel
theorem dBE_init_20 : decode cBE_init 20 = .ok (.return_, 1) := by decide +kernel
theorem dBE_determinant_0 : decode cBE_determinant 0 = .ok (.iload_n 1, 1) := by decide +kernel
theorem dBE_determinant_1 : decode cBE_determinant 1 = .ok (.aload_n 0, 1) := by decide +kernel
theorem dBE_determinant_2 : decode cBE_determinant 2 = .ok (.getfield 9, 3) := by decide +kernel
theorem dBE_determinant_5 : decode cBE_determinant 5 = .ok (.invokestatic 18, 3) := by decide +kernel
theorem dBE_determinant_8 : decode cBE_determinant 8 = .ok (.aload_n 0, 1) := by decide +kernel
theorem dBE_determinant_9 : decode cBE_determinant 9 = .ok (.getfield 9, 3) := by decide +kernel
theorem dBE_determinant_12 : decode cBE_determinant 12 = .ok (.iconst 0, 1) := by decide +kernel
theorem dBE_determinant_13 : decode cBE_determinant 13 = .ok (.iaload, 1) := by decide +kernel
theorem dBE_determinant_14 : decode cBE_determinant 14 = .ok (.aload_n 0, 1) := by decide +kernel
theorem dBE_determinant_15 : decode cBE_determinant 15 = .ok (.getfield 9, 3) := by decide +kernel
theorem dBE_determinant_18 : decode cBE_determinant 18 = .ok (.iconst 4, 1) := by decide +kernel
theorem dBE_determinant_19 : decode cBE_determinant 19 = .ok (.iaload, 1) := by decide +kernel
theorem dBE_determinant_20 : decode cBE_determinant 20 = .ok (.aload_n 0, 1) := by decide +kernel
theorem dBE_determinant_21 : decode cBE_determinant 21 = .ok (.getfield 9, 3) := by decide +kernel
theorem dBE_determinant_24 : decode cBE_determinant 24 = .ok (.bipush 8, 2) := by decide +kernel
theorem dBE_determinant_26 : decode cBE_determinant 26 = .ok (.iaload, 1) := by decide +kernel
theorem dBE_determinant_27 : decode cBE_determinant 27 = .ok (.imul, 1) := by decide +kernel
theorem dBE_determinant_28 : decode cBE_determinant 28 = .ok (.aload_n 0, 1) := by decide +kernel
theorem dBE_determinant_29 : decode cBE_determinant 29 = .ok (.getfield 9, 3) := by decide +kernel
theorem dBE_determinant_32 : decode cBE_determinant 32 = .ok (.iconst 5, 1) := by decide +kernel
theorem dBE_determinant_33 : decode cBE_determinant 33 = .ok (.iaload, 1) := by decide +kernel
theorem dBE_determinant_34 : decode cBE_determinant 34 = .ok (.aload_n 0, 1) := by decide +kernel
theorem dBE_determinant_35 : decode cBE_determinant 35 = .ok (.getfield 9, 3) := by decide +kernel
theorem dBE_determinant_38 : decode cBE_determinant 38 = .ok (.bipush 7, 2) := by decide +kernel
theorem dBE_determinant_40 : decode cBE_determinant 40 = .ok (.iaload, 1) := by decide +kernel
theorem dBE_determinant_41 : decode cBE_determinant 41 = .ok (.imul, 1) := by decide +kernel
theorem dBE_determinant_42 : decode cBE_determinant 42 = .ok (.isub, 1) := by decide +kernel
theorem dBE_determinant_43 : decode cBE_determinant 43 = .ok (.imul, 1) := by decide +kernel
theorem dBE_determinant_44 : decode cBE_determinant 44 = .ok (.aload_n 0, 1) := by decide +kernel
theorem dBE_determinant_45 : decode cBE_determinant 45 = .ok (.getfield 9, 3) := by decide +kernel
theorem dBE_determinant_48 : decode cBE_determinant 48 = .ok (.iconst 1, 1) := by decide +kernel
theorem dBE_determinant_49 : decode cBE_determinant 49 = .ok (.iaload, 1) := by decide +kernel
theorem dBE_determinant_50 : decode cBE_determinant 50 = .ok (.aload_n 0, 1) := by decide +kernel
theorem dBE_determinant_51 : decode cBE_determinant 51 = .ok (.getfield 9, 3) := by decide +kernel
theorem dBE_determinant_54 : decode cBE_determinant 54 = .ok (.iconst 3, 1) := by decide +kernel
theorem dBE_determinant_55 : decode cBE_determinant 55 = .ok (.iaload, 1) := by decide +kernel
theorem dBE_determinant_56 : decode cBE_determinant 56 = .ok (.aload_n 0, 1) := by decide +kernel
theorem dBE_determinant_57 : decode cBE_determinant 57 = .ok (.getfield 9, 3) := by decide +kernel
theorem dBE_determinant_60 : decode cBE_determinant 60 = .ok (.bipush 8, 2) := by decide +kernel
theorem dBE_determinant_62 : decode cBE_determinant 62 = .ok (.iaload, 1) := by decide +kernel
theorem dBE_determinant_63 : decode cBE_determinant 63 = .ok (.imul, 1) := by decide +kernel
theorem dBE_determinant_64 : decode cBE_determinant 64 = .ok (.aload_n 0, 1) := by decide +kernel
theorem dBE_determinant_65 : decode cBE_determinant 65 = .ok (.getfield 9, 3) := by decide +kernel
theorem dBE_determinant_68 : decode cBE_determinant 68 = .ok (.iconst 5, 1) := by decide +kernel
theorem dBE_determinant_69 : decode cBE_determinant 69 = .ok (.iaload, 1) := by decide +kernel
theorem dBE_determinant_70 : decode cBE_determinant 70 = .ok (.aload_n 0, 1) := by decide +kernel
theorem dBE_determinant_71 : decode cBE_determinant 71 = .ok (.getfield 9, 3) := by decide +kernel
theorem dBE_determinant_74 : decode cBE_determinant 74 = .ok (.bipush 6, 2) := by decide +kernel
theorem dBE_determinant_76 : decode cBE_determinant 76 = .ok (.iaload, 1) := by decide +kernel
theorem dBE_determinant_77 : decode cBE_determinant 77 = .ok (.imul, 1) := by decide +kernel
theorem dBE_determinant_78 : decode cBE_determinant 78 = .ok (.isub, 1) := by decide +kernel
theorem dBE_determinant_79 : decode cBE_determinant 79 = .ok (.imul, 1) := by decide +kernel
theorem dBE_determinant_80 : decode cBE_determinant 80 = .ok (.isub, 1) := by decide +kernel
theorem dBE_determinant_81 : decode cBE_determinant 81 = .ok (.aload_n 0, 1) := by decide +kernel
theorem dBE_determinant_82 : decode cBE_determinant 82 = .ok (.getfield 9, 3) := by decide +kernel
theorem dBE_determinant_85 : decode cBE_determinant 85 = .ok (.iconst 2, 1) := by decide +kernel
theorem dBE_determinant_86 : decode cBE_determinant 86 = .ok (.iaload, 1) := by decide +kernel
theorem dBE_determinant_87 : decode cBE_determinant 87 = .ok (.aload_n 0, 1) := by decide +kernel
theorem dBE_determinant_88 : decode cBE_determinant 88 = .ok (.getfield 9, 3) := by decide +kernel
theorem dBE_determinant_91 : decode cBE_determinant 91 = .ok (.iconst 3, 1) := by decide +kernel
theorem dBE_determinant_92 : decode cBE_determinant 92 = .ok (.iaload, 1) := by decide +kernel
theorem dBE_determinant_93 : decode cBE_determinant 93 = .ok (.aload_n 0, 1) := by decide +kernel
theorem dBE_determinant_94 : decode cBE_determinant 94 = .ok (.getfield 9, 3) := by decide +kernel
theorem dBE_determinant_97 : decode cBE_determinant 97 = .ok (.bipush 7, 2) := by decide +kernel
theorem dBE_determinant_99 : decode cBE_determinant 99 = .ok (.iaload, 1) := by decide +kernel
theorem dBE_determinant_100 : decode cBE_determinant 100 = .ok (.imul, 1) := by decide +kernel
theorem dBE_determinant_101 : decode cBE_determinant 101 = .ok (.aload_n 0, 1) := by decide +kernel
theorem dBE_determinant_102 : decode cBE_determinant 102 = .ok (.getfield 9, 3) := by decide +kernel
theorem dBE_determinant_105 : decode cBE_determinant 105 = .ok (.iconst 4, 1) := by decide +kernel
theorem dBE_determinant_106 : decode cBE_determinant 106 = .ok (.iaload, 1) := by decide +kernel
theorem dBE_determinant_107 : decode cBE_determinant 107 = .ok (.aload_n 0, 1) := by decide +kernel
theorem dBE_determinant_108 : decode cBE_determinant 108 = .ok (.getfield 9, 3) := by decide +kernel
theorem dBE_determinant_111 : decode cBE_determinant 111 = .ok (.bipush 6, 2) := by decide +kernel
theorem dBE_determinant_113 : decode cBE_determinant 113 = .ok (.iaload, 1) := by decide +kernel
theorem dBE_determinant_114 : decode cBE_determinant 114 = .ok (.imul, 1) := by decide +kernel
theorem dBE_determinant_115 : decode cBE_determinant 115 = .ok (.isub, 1) := by decide +kernel
theorem dBE_determinant_116 : decode cBE_determinant 116 = .ok (.imul, 1) := by decide +kernel
theorem dBE_determinant_117 : decode cBE_determinant 117 = .ok (.iadd, 1) := by decide +kernel
theorem dBE_determinant_118 : decode cBE_determinant 118 = .ok (.ireturn, 1) := by decide +kernel
theorem dBE_read_0 : decode cBE_read 0 = .ok (.iload_n 0, 1) := by decide +kernel
theorem dBE_read_1 : decode cBE_read 1 = .ok (.sipush 13824, 3) := by decide +kernel
theorem dBE_read_4 : decode cBE_read 4 = .ok (.idiv, 1) := by decide +kernel
theorem dBE_read_5 : decode cBE_read 5 = .ok (.istore_n 2, 1) := by decide +kernel
theorem dBE_read_6 : decode cBE_read 6 = .ok (.bipush 8, 2) := by decide +kernel
theorem dBE_read_8 : decode cBE_read 8 = .ok (.istore_n 3, 1) := by decide +kernel
theorem dBE_read_9 : decode cBE_read 9 = .ok (.iload_n 3, 1) := by decide +kernel
theorem dBE_read_10 : decode cBE_read 10 = .ok (.ifCond .lt 27, 3) := by decide +kernel
theorem dBE_read_13 : decode cBE_read 13 = .ok (.iload_n 3, 1) := by decide +kernel
theorem dBE_read_14 : decode cBE_read 14 = .ok (.aload_n 1, 1) := by decide +kernel
theorem dBE_read_15 : decode cBE_read 15 = .ok (.arraylength, 1) := by decide +kernel
theorem dBE_read_16 : decode cBE_read 16 = .ok (.if_icmp .ge 21, 3) := by decide +kernel
theorem dBE_read_19 : decode cBE_read 19 = .ok (.aload_n 1, 1) := by decide +kernel
theorem dBE_read_20 : decode cBE_read 20 = .ok (.iload_n 3, 1) := by decide +kernel
theorem dBE_read_21 : decode cBE_read 21 = .ok (.iload_n 2, 1) := by decide +kernel
theorem dBE_read_22 : decode cBE_read 22 = .ok (.iconst 3, 1) := by decide +kernel
theorem dBE_read_23 : decode cBE_read 23 = .ok (.irem, 1) := by decide +kernel
theorem dBE_read_24 : decode cBE_read 24 = .ok (.iconst 1, 1) := by decide +kernel
theorem dBE_read_25 : decode cBE_read 25 = .ok (.isub, 1) := by decide +kernel
theorem dBE_read_26 : decode cBE_read 26 = .ok (.iastore, 1) := by decide +kernel
theorem dBE_read_27 : decode cBE_read 27 = .ok (.iload_n 2, 1) := by decide +kernel
theorem dBE_read_28 : decode cBE_read 28 = .ok (.iconst 3, 1) := by decide +kernel
theorem dBE_read_29 : decode cBE_read 29 = .ok (.idiv, 1) := by decide +kernel
theorem dBE_read_30 : decode cBE_read 30 = .ok (.istore_n 2, 1) := by decide +kernel
theorem dBE_read_31 : decode cBE_read 31 = .ok (.iinc 3 (-1), 3) := by decide +kernel
theorem dBE_read_34 : decode cBE_read 34 = .ok (.goto (-25), 3) := by decide +kernel
theorem dBE_read_37 : decode cBE_read 37 = .ok (.return_, 1) := by decide +kernel
theorem dBE_times_0 : decode cBE_times 0 = .ok (.iload_n 1, 1) := by decide +kernel
theorem dBE_times_1 : decode cBE_times 1 = .ok (.aload_n 0, 1) := by decide +kernel
theorem dBE_times_2 : decode cBE_times 2 = .ok (.getfield 9, 3) := by decide +kernel
theorem dBE_times_5 : decode cBE_times 5 = .ok (.invokestatic 18, 3) := by decide +kernel
theorem dBE_times_8 : decode cBE_times 8 = .ok (.iload_n 2, 1) := by decide +kernel
theorem dBE_times_9 : decode cBE_times 9 = .ok (.aload_n 0, 1) := by decide +kernel
theorem dBE_times_10 : decode cBE_times 10 = .ok (.getfield 15, 3) := by decide +kernel
theorem dBE_times_13 : decode cBE_times 13 = .ok (.invokestatic 18, 3) := by decide +kernel
theorem dBE_times_16 : decode cBE_times 16 = .ok (.iconst 0, 1) := by decide +kernel
theorem dBE_times_17 : decode cBE_times 17 = .ok (.istore_n 3, 1) := by decide +kernel
theorem dBE_times_18 : decode cBE_times 18 = .ok (.iconst 0, 1) := by decide +kernel
theorem dBE_times_19 : decode cBE_times 19 = .ok (.istore 4, 2) := by decide +kernel
theorem dBE_times_21 : decode cBE_times 21 = .ok (.iload 4, 2) := by decide +kernel
theorem dBE_times_23 : decode cBE_times 23 = .ok (.bipush 9, 2) := by decide +kernel
theorem dBE_times_25 : decode cBE_times 25 = .ok (.if_icmp .ge 105, 3) := by decide +kernel
theorem dBE_times_28 : decode cBE_times 28 = .ok (.iconst 0, 1) := by decide +kernel
theorem dBE_times_29 : decode cBE_times 29 = .ok (.istore 5, 2) := by decide +kernel
theorem dBE_times_31 : decode cBE_times 31 = .ok (.iload 5, 2) := by decide +kernel
theorem dBE_times_33 : decode cBE_times 33 = .ok (.iconst 3, 1) := by decide +kernel
theorem dBE_times_34 : decode cBE_times 34 = .ok (.if_icmp .ge 90, 3) := by decide +kernel
theorem dBE_times_37 : decode cBE_times 37 = .ok (.aload_n 0, 1) := by decide +kernel
theorem dBE_times_38 : decode cBE_times 38 = .ok (.getfield 9, 3) := by decide +kernel
theorem dBE_times_41 : decode cBE_times 41 = .ok (.iload 4, 2) := by decide +kernel
theorem dBE_times_43 : decode cBE_times 43 = .ok (.iaload, 1) := by decide +kernel
theorem dBE_times_44 : decode cBE_times 44 = .ok (.aload_n 0, 1) := by decide +kernel
theorem dBE_times_45 : decode cBE_times 45 = .ok (.getfield 15, 3) := by decide +kernel
theorem dBE_times_48 : decode cBE_times 48 = .ok (.iload 5, 2) := by decide +kernel
theorem dBE_times_50 : decode cBE_times 50 = .ok (.iaload, 1) := by decide +kernel
theorem dBE_times_51 : decode cBE_times 51 = .ok (.imul, 1) := by decide +kernel
theorem dBE_times_52 : decode cBE_times 52 = .ok (.aload_n 0, 1) := by decide +kernel
theorem dBE_times_53 : decode cBE_times 53 = .ok (.getfield 9, 3) := by decide +kernel
theorem dBE_times_56 : decode cBE_times 56 = .ok (.iload 4, 2) := by decide +kernel
theorem dBE_times_58 : decode cBE_times 58 = .ok (.iconst 1, 1) := by decide +kernel
theorem dBE_times_59 : decode cBE_times 59 = .ok (.iadd, 1) := by decide +kernel
theorem dBE_times_60 : decode cBE_times 60 = .ok (.iaload, 1) := by decide +kernel
theorem dBE_times_61 : decode cBE_times 61 = .ok (.aload_n 0, 1) := by decide +kernel
theorem dBE_times_62 : decode cBE_times 62 = .ok (.getfield 15, 3) := by decide +kernel
theorem dBE_times_65 : decode cBE_times 65 = .ok (.iload 5, 2) := by decide +kernel
theorem dBE_times_67 : decode cBE_times 67 = .ok (.iconst 3, 1) := by decide +kernel
theorem dBE_times_68 : decode cBE_times 68 = .ok (.iadd, 1) := by decide +kernel
theorem dBE_times_69 : decode cBE_times 69 = .ok (.iaload, 1) := by decide +kernel
theorem dBE_times_70 : decode cBE_times 70 = .ok (.imul, 1) := by decide +kernel
theorem dBE_times_71 : decode cBE_times 71 = .ok (.iadd, 1) := by decide +kernel
theorem dBE_times_72 : decode cBE_times 72 = .ok (.aload_n 0, 1) := by decide +kernel
theorem dBE_times_73 : decode cBE_times 73 = .ok (.getfield 9, 3) := by decide +kernel
theorem dBE_times_76 : decode cBE_times 76 = .ok (.iload 4, 2) := by decide +kernel
theorem dBE_times_78 : decode cBE_times 78 = .ok (.iconst 2, 1) := by decide +kernel
theorem dBE_times_79 : decode cBE_times 79 = .ok (.iadd, 1) := by decide +kernel
theorem dBE_times_80 : decode cBE_times 80 = .ok (.iaload, 1) := by decide +kernel
theorem dBE_times_81 : decode cBE_times 81 = .ok (.aload_n 0, 1) := by decide +kernel
theorem dBE_times_82 : decode cBE_times 82 = .ok (.getfield 15, 3) := by decide +kernel
theorem dBE_times_85 : decode cBE_times 85 = .ok (.iload 5, 2) := by decide +kernel
theorem dBE_times_87 : decode cBE_times 87 = .ok (.bipush 6, 2) := by decide +kernel
theorem dBE_times_89 : decode cBE_times 89 = .ok (.iadd, 1) := by decide +kernel
theorem dBE_times_90 : decode cBE_times 90 = .ok (.iaload, 1) := by decide +kernel
theorem dBE_times_91 : decode cBE_times 91 = .ok (.imul, 1) := by decide +kernel
theorem dBE_times_92 : decode cBE_times 92 = .ok (.iadd, 1) := by decide +kernel
theorem dBE_times_93 : decode cBE_times 93 = .ok (.istore 6, 2) := by decide +kernel
theorem dBE_times_95 : decode cBE_times 95 = .ok (.iload 6, 2) := by decide +kernel
theorem dBE_times_97 : decode cBE_times 97 = .ok (.iconst (-1), 1) := by decide +kernel
theorem dBE_times_98 : decode cBE_times 98 = .ok (.if_icmp .lt 9, 3) := by decide +kernel
theorem dBE_times_101 : decode cBE_times 101 = .ok (.iload 6, 2) := by decide +kernel
theorem dBE_times_103 : decode cBE_times 103 = .ok (.iconst 1, 1) := by decide +kernel
theorem dBE_times_104 : decode cBE_times 104 = .ok (.if_icmp .le 5, 3) := by decide +kernel
theorem dBE_times_107 : decode cBE_times 107 = .ok (.iconst (-1), 1) := by decide +kernel
theorem dBE_times_108 : decode cBE_times 108 = .ok (.ireturn, 1) := by decide +kernel
theorem dBE_times_109 : decode cBE_times 109 = .ok (.iload_n 3, 1) := by decide +kernel
theorem dBE_times_110 : decode cBE_times 110 = .ok (.iconst 3, 1) := by decide +kernel
theorem dBE_times_111 : decode cBE_times 111 = .ok (.imul, 1) := by decide +kernel
theorem dBE_times_112 : decode cBE_times 112 = .ok (.iload 6, 2) := by decide +kernel
theorem dBE_times_114 : decode cBE_times 114 = .ok (.iadd, 1) := by decide +kernel
theorem dBE_times_115 : decode cBE_times 115 = .ok (.iconst 1, 1) := by decide +kernel
theorem dBE_times_116 : decode cBE_times 116 = .ok (.iadd, 1) := by decide +kernel
theorem dBE_times_117 : decode cBE_times 117 = .ok (.istore_n 3, 1) := by decide +kernel
theorem dBE_times_118 : decode cBE_times 118 = .ok (.iinc 5 1, 3) := by decide +kernel
theorem dBE_times_121 : decode cBE_times 121 = .ok (.goto (-90), 3) := by decide +kernel
theorem dBE_times_124 : decode cBE_times 124 = .ok (.iinc 4 3, 3) := by decide +kernel
theorem dBE_times_127 : decode cBE_times 127 = .ok (.goto (-106), 3) := by decide +kernel
theorem dBE_times_130 : decode cBE_times 130 = .ok (.iload_n 3, 1) := by decide +kernel
theorem dBE_times_131 : decode cBE_times 131 = .ok (.sipush 13824, 3) := by decide +kernel
theorem dBE_times_134 : decode cBE_times 134 = .ok (.imul, 1) := by decide +kernel
theorem dBE_times_135 : decode cBE_times 135 = .ok (.aload_n 0, 1) := by decide +kernel
theorem dBE_times_136 : decode cBE_times 136 = .ok (.iload_n 1, 1) := by decide +kernel
theorem dBE_times_137 : decode cBE_times 137 = .ok (.sipush 13824, 3) := by decide +kernel
theorem dBE_times_140 : decode cBE_times 140 = .ok (.irem, 1) := by decide +kernel
theorem dBE_times_141 : decode cBE_times 141 = .ok (.iload_n 2, 1) := by decide +kernel
theorem dBE_times_142 : decode cBE_times 142 = .ok (.sipush 13824, 3) := by decide +kernel
theorem dBE_times_145 : decode cBE_times 145 = .ok (.irem, 1) := by decide +kernel
theorem dBE_times_146 : decode cBE_times 146 = .ok (.invokevirtual 29, 3) := by decide +kernel
theorem dBE_times_149 : decode cBE_times 149 = .ok (.iadd, 1) := by decide +kernel
theorem dBE_times_150 : decode cBE_times 150 = .ok (.ireturn, 1) := by decide +kernel
theorem dBE_movedByLeft_0 : decode cBE_movedByLeft 0 = .ok (.iload_n 2, 1) := by decide +kernel
theorem dBE_movedByLeft_1 : decode cBE_movedByLeft 1 = .ok (.sipush 576, 3) := by decide +kernel
theorem dBE_movedByLeft_4 : decode cBE_movedByLeft 4 = .ok (.idiv, 1) := by decide +kernel
theorem dBE_movedByLeft_5 : decode cBE_movedByLeft 5 = .ok (.istore_n 3, 1) := by decide +kernel
theorem dBE_movedByLeft_6 : decode cBE_movedByLeft 6 = .ok (.iload_n 2, 1) := by decide +kernel
theorem dBE_movedByLeft_7 : decode cBE_movedByLeft 7 = .ok (.bipush 24, 2) := by decide +kernel
theorem dBE_movedByLeft_9 : decode cBE_movedByLeft 9 = .ok (.idiv, 1) := by decide +kernel
theorem dBE_movedByLeft_10 : decode cBE_movedByLeft 10 = .ok (.bipush 24, 2) := by decide +kernel
theorem dBE_movedByLeft_12 : decode cBE_movedByLeft 12 = .ok (.irem, 1) := by decide +kernel
theorem dBE_movedByLeft_13 : decode cBE_movedByLeft 13 = .ok (.istore 4, 2) := by decide +kernel
theorem dBE_movedByLeft_15 : decode cBE_movedByLeft 15 = .ok (.iload_n 2, 1) := by decide +kernel
theorem dBE_movedByLeft_16 : decode cBE_movedByLeft 16 = .ok (.bipush 24, 2) := by decide +kernel
theorem dBE_movedByLeft_18 : decode cBE_movedByLeft 18 = .ok (.irem, 1) := by decide +kernel
theorem dBE_movedByLeft_19 : decode cBE_movedByLeft 19 = .ok (.istore 5, 2) := by decide +kernel
theorem dBE_movedByLeft_21 : decode cBE_movedByLeft 21 = .ok (.aload_n 0, 1) := by decide +kernel
theorem dBE_movedByLeft_22 : decode cBE_movedByLeft 22 = .ok (.getfield 9, 3) := by decide +kernel
theorem dBE_movedByLeft_25 : decode cBE_movedByLeft 25 = .ok (.iconst 0, 1) := by decide +kernel
theorem dBE_movedByLeft_26 : decode cBE_movedByLeft 26 = .ok (.iaload, 1) := by decide +kernel
theorem dBE_movedByLeft_27 : decode cBE_movedByLeft 27 = .ok (.iload_n 3, 1) := by decide +kernel
theorem dBE_movedByLeft_28 : decode cBE_movedByLeft 28 = .ok (.imul, 1) := by decide +kernel
theorem dBE_movedByLeft_29 : decode cBE_movedByLeft 29 = .ok (.aload_n 0, 1) := by decide +kernel
theorem dBE_movedByLeft_30 : decode cBE_movedByLeft 30 = .ok (.getfield 9, 3) := by decide +kernel
theorem dBE_movedByLeft_33 : decode cBE_movedByLeft 33 = .ok (.iconst 1, 1) := by decide +kernel
theorem dBE_movedByLeft_34 : decode cBE_movedByLeft 34 = .ok (.iaload, 1) := by decide +kernel
theorem dBE_movedByLeft_35 : decode cBE_movedByLeft 35 = .ok (.iload 4, 2) := by decide +kernel
theorem dBE_movedByLeft_37 : decode cBE_movedByLeft 37 = .ok (.imul, 1) := by decide +kernel
theorem dBE_movedByLeft_38 : decode cBE_movedByLeft 38 = .ok (.iadd, 1) := by decide +kernel
theorem dBE_movedByLeft_39 : decode cBE_movedByLeft 39 = .ok (.aload_n 0, 1) := by decide +kernel
theorem dBE_movedByLeft_40 : decode cBE_movedByLeft 40 = .ok (.getfield 9, 3) := by decide +kernel
theorem dBE_movedByLeft_43 : decode cBE_movedByLeft 43 = .ok (.iconst 2, 1) := by decide +kernel
theorem dBE_movedByLeft_44 : decode cBE_movedByLeft 44 = .ok (.iaload, 1) := by decide +kernel
theorem dBE_movedByLeft_45 : decode cBE_movedByLeft 45 = .ok (.iload 5, 2) := by decide +kernel
theorem dBE_movedByLeft_47 : decode cBE_movedByLeft 47 = .ok (.imul, 1) := by decide +kernel
theorem dBE_movedByLeft_48 : decode cBE_movedByLeft 48 = .ok (.iadd, 1) := by decide +kernel
theorem dBE_movedByLeft_49 : decode cBE_movedByLeft 49 = .ok (.iload_n 1, 1) := by decide +kernel
theorem dBE_movedByLeft_50 : decode cBE_movedByLeft 50 = .ok (.sipush 576, 3) := by decide +kernel
theorem dBE_movedByLeft_53 : decode cBE_movedByLeft 53 = .ok (.idiv, 1) := by decide +kernel
theorem dBE_movedByLeft_54 : decode cBE_movedByLeft 54 = .ok (.iadd, 1) := by decide +kernel
theorem dBE_movedByLeft_55 : decode cBE_movedByLeft 55 = .ok (.istore 6, 2) := by decide +kernel
theorem dBE_movedByLeft_57 : decode cBE_movedByLeft 57 = .ok (.aload_n 0, 1) := by decide +kernel
theorem dBE_movedByLeft_58 : decode cBE_movedByLeft 58 = .ok (.getfield 9, 3) := by decide +kernel
theorem dBE_movedByLeft_61 : decode cBE_movedByLeft 61 = .ok (.iconst 3, 1) := by decide +kernel
theorem dBE_movedByLeft_62 : decode cBE_movedByLeft 62 = .ok (.iaload, 1) := by decide +kernel
theorem dBE_movedByLeft_63 : decode cBE_movedByLeft 63 = .ok (.iload_n 3, 1) := by decide +kernel
theorem dBE_movedByLeft_64 : decode cBE_movedByLeft 64 = .ok (.imul, 1) := by decide +kernel
theorem dBE_movedByLeft_65 : decode cBE_movedByLeft 65 = .ok (.aload_n 0, 1) := by decide +kernel
theorem dBE_movedByLeft_66 : decode cBE_movedByLeft 66 = .ok (.getfield 9, 3) := by decide +kernel
theorem dBE_movedByLeft_69 : decode cBE_movedByLeft 69 = .ok (.iconst 4, 1) := by decide +kernel
theorem dBE_movedByLeft_70 : decode cBE_movedByLeft 70 = .ok (.iaload, 1) := by decide +kernel
theorem dBE_movedByLeft_71 : decode cBE_movedByLeft 71 = .ok (.iload 4, 2) := by decide +kernel
theorem dBE_movedByLeft_73 : decode cBE_movedByLeft 73 = .ok (.imul, 1) := by decide +kernel
theorem dBE_movedByLeft_74 : decode cBE_movedByLeft 74 = .ok (.iadd, 1) := by decide +kernel
theorem dBE_movedByLeft_75 : decode cBE_movedByLeft 75 = .ok (.aload_n 0, 1) := by decide +kernel
theorem dBE_movedByLeft_76 : decode cBE_movedByLeft 76 = .ok (.getfield 9, 3) := by decide +kernel
theorem dBE_movedByLeft_79 : decode cBE_movedByLeft 79 = .ok (.iconst 5, 1) := by decide +kernel
theorem dBE_movedByLeft_80 : decode cBE_movedByLeft 80 = .ok (.iaload, 1) := by decide +kernel
theorem dBE_movedByLeft_81 : decode cBE_movedByLeft 81 = .ok (.iload 5, 2) := by decide +kernel
theorem dBE_movedByLeft_83 : decode cBE_movedByLeft 83 = .ok (.imul, 1) := by decide +kernel
theorem dBE_movedByLeft_84 : decode cBE_movedByLeft 84 = .ok (.iadd, 1) := by decide +kernel
theorem dBE_movedByLeft_85 : decode cBE_movedByLeft 85 = .ok (.iload_n 1, 1) := by decide +kernel
theorem dBE_movedByLeft_86 : decode cBE_movedByLeft 86 = .ok (.bipush 24, 2) := by decide +kernel
theorem dBE_movedByLeft_88 : decode cBE_movedByLeft 88 = .ok (.idiv, 1) := by decide +kernel
theorem dBE_movedByLeft_89 : decode cBE_movedByLeft 89 = .ok (.bipush 24, 2) := by decide +kernel
theorem dBE_movedByLeft_91 : decode cBE_movedByLeft 91 = .ok (.irem, 1) := by decide +kernel
theorem dBE_movedByLeft_92 : decode cBE_movedByLeft 92 = .ok (.iadd, 1) := by decide +kernel
theorem dBE_movedByLeft_93 : decode cBE_movedByLeft 93 = .ok (.istore 7, 2) := by decide +kernel
theorem dBE_movedByLeft_95 : decode cBE_movedByLeft 95 = .ok (.aload_n 0, 1) := by decide +kernel
theorem dBE_movedByLeft_96 : decode cBE_movedByLeft 96 = .ok (.getfield 9, 3) := by decide +kernel
theorem dBE_movedByLeft_99 : decode cBE_movedByLeft 99 = .ok (.bipush 6, 2) := by decide +kernel
theorem dBE_movedByLeft_101 : decode cBE_movedByLeft 101 = .ok (.iaload, 1) := by decide +kernel
theorem dBE_movedByLeft_102 : decode cBE_movedByLeft 102 = .ok (.iload_n 3, 1) := by decide +kernel
theorem dBE_movedByLeft_103 : decode cBE_movedByLeft 103 = .ok (.imul, 1) := by decide +kernel
theorem dBE_movedByLeft_104 : decode cBE_movedByLeft 104 = .ok (.aload_n 0, 1) := by decide +kernel
theorem dBE_movedByLeft_105 : decode cBE_movedByLeft 105 = .ok (.getfield 9, 3) := by decide +kernel
theorem dBE_movedByLeft_108 : decode cBE_movedByLeft 108 = .ok (.bipush 7, 2) := by decide +kernel
theorem dBE_movedByLeft_110 : decode cBE_movedByLeft 110 = .ok (.iaload, 1) := by decide +kernel
theorem dBE_movedByLeft_111 : decode cBE_movedByLeft 111 = .ok (.iload 4, 2) := by decide +kernel
theorem dBE_movedByLeft_113 : decode cBE_movedByLeft 113 = .ok (.imul, 1) := by decide +kernel
theorem dBE_movedByLeft_114 : decode cBE_movedByLeft 114 = .ok (.iadd, 1) := by decide +kernel
theorem dBE_movedByLeft_115 : decode cBE_movedByLeft 115 = .ok (.aload_n 0, 1) := by decide +kernel
theorem dBE_movedByLeft_116 : decode cBE_movedByLeft 116 = .ok (.getfield 9, 3) := by decide +kernel
theorem dBE_movedByLeft_119 : decode cBE_movedByLeft 119 = .ok (.bipush 8, 2) := by decide +kernel
theorem dBE_movedByLeft_121 : decode cBE_movedByLeft 121 = .ok (.iaload, 1) := by decide +kernel
theorem dBE_movedByLeft_122 : decode cBE_movedByLeft 122 = .ok (.iload 5, 2) := by decide +kernel
theorem dBE_movedByLeft_124 : decode cBE_movedByLeft 124 = .ok (.imul, 1) := by decide +kernel
theorem dBE_movedByLeft_125 : decode cBE_movedByLeft 125 = .ok (.iadd, 1) := by decide +kernel
theorem dBE_movedByLeft_126 : decode cBE_movedByLeft 126 = .ok (.iload_n 1, 1) := by decide +kernel
theorem dBE_movedByLeft_127 : decode cBE_movedByLeft 127 = .ok (.bipush 24, 2) := by decide +kernel
theorem dBE_movedByLeft_129 : decode cBE_movedByLeft 129 = .ok (.irem, 1) := by decide +kernel
theorem dBE_movedByLeft_130 : decode cBE_movedByLeft 130 = .ok (.iadd, 1) := by decide +kernel
theorem dBE_movedByLeft_131 : decode cBE_movedByLeft 131 = .ok (.istore 8, 2) := by decide +kernel
theorem dBE_movedByLeft_133 : decode cBE_movedByLeft 133 = .ok (.iload 6, 2) := by decide +kernel
theorem dBE_movedByLeft_135 : decode cBE_movedByLeft 135 = .ok (.bipush 72, 2) := by decide +kernel
theorem dBE_movedByLeft_137 : decode cBE_movedByLeft 137 = .ok (.iadd, 1) := by decide +kernel
theorem dBE_movedByLeft_138 : decode cBE_movedByLeft 138 = .ok (.bipush 24, 2) := by decide +kernel
theorem dBE_movedByLeft_140 : decode cBE_movedByLeft 140 = .ok (.irem, 1) := by decide +kernel
theorem dBE_movedByLeft_141 : decode cBE_movedByLeft 141 = .ok (.bipush 24, 2) := by decide +kernel
theorem dBE_movedByLeft_143 : decode cBE_movedByLeft 143 = .ok (.imul, 1) := by decide +kernel
theorem dBE_movedByLeft_144 : decode cBE_movedByLeft 144 = .ok (.iload 7, 2) := by decide +kernel
theorem dBE_movedByLeft_146 : decode cBE_movedByLeft 146 = .ok (.bipush 72, 2) := by decide +kernel
theorem dBE_movedByLeft_148 : decode cBE_movedByLeft 148 = .ok (.iadd, 1) := by decide +kernel
theorem dBE_movedByLeft_149 : decode cBE_movedByLeft 149 = .ok (.bipush 24, 2) := by decide +kernel
theorem dBE_movedByLeft_151 : decode cBE_movedByLeft 151 = .ok (.irem, 1) := by decide +kernel
theorem dBE_movedByLeft_152 : decode cBE_movedByLeft 152 = .ok (.iadd, 1) := by decide +kernel
theorem dBE_movedByLeft_153 : decode cBE_movedByLeft 153 = .ok (.bipush 24, 2) := by decide +kernel
theorem dBE_movedByLeft_155 : decode cBE_movedByLeft 155 = .ok (.imul, 1) := by decide +kernel
theorem dBE_movedByLeft_156 : decode cBE_movedByLeft 156 = .ok (.iload 8, 2) := by decide +kernel
theorem dBE_movedByLeft_158 : decode cBE_movedByLeft 158 = .ok (.bipush 72, 2) := by decide +kernel
theorem dBE_movedByLeft_160 : decode cBE_movedByLeft 160 = .ok (.iadd, 1) := by decide +kernel
theorem dBE_movedByLeft_161 : decode cBE_movedByLeft 161 = .ok (.bipush 24, 2) := by decide +kernel
theorem dBE_movedByLeft_163 : decode cBE_movedByLeft 163 = .ok (.irem, 1) := by decide +kernel
theorem dBE_movedByLeft_164 : decode cBE_movedByLeft 164 = .ok (.iadd, 1) := by decide +kernel
theorem dBE_movedByLeft_165 : decode cBE_movedByLeft 165 = .ok (.ireturn, 1) := by decide +kernel
theorem dBE_sort_0 : decode cBE_sort 0 = .ok (.aload_n 0, 1) := by decide +kernel
theorem dBE_sort_1 : decode cBE_sort 1 = .ok (.iload_n 1, 1) := by decide +kernel
theorem dBE_sort_2 : decode cBE_sort 2 = .ok (.invokevirtual 22, 3) := by decide +kernel
theorem dBE_sort_5 : decode cBE_sort 5 = .ok (.istore_n 2, 1) := by decide +kernel
theorem dBE_sort_6 : decode cBE_sort 6 = .ok (.iload_n 2, 1) := by decide +kernel
theorem dBE_sort_7 : decode cBE_sort 7 = .ok (.iconst 1, 1) := by decide +kernel
theorem dBE_sort_8 : decode cBE_sort 8 = .ok (.if_icmp .eq 10, 3) := by decide +kernel
theorem dBE_sort_11 : decode cBE_sort 11 = .ok (.iload_n 2, 1) := by decide +kernel
theorem dBE_sort_12 : decode cBE_sort 12 = .ok (.iconst (-1), 1) := by decide +kernel
theorem dBE_sort_13 : decode cBE_sort 13 = .ok (.if_icmp .eq 5, 3) := by decide +kernel
theorem dBE_sort_16 : decode cBE_sort 16 = .ok (.iconst 0, 1) := by decide +kernel
theorem dBE_sort_17 : decode cBE_sort 17 = .ok (.ireturn, 1) := by decide +kernel
theorem dBE_sort_18 : decode cBE_sort 18 = .ok (.iload_n 2, 1) := by decide +kernel
theorem dBE_sort_19 : decode cBE_sort 19 = .ok (.aload_n 0, 1) := by decide +kernel
theorem dBE_sort_20 : decode cBE_sort 20 = .ok (.getfield 9, 3) := by decide +kernel
theorem dBE_sort_23 : decode cBE_sort 23 = .ok (.iconst 0, 1) := by decide +kernel
theorem dBE_sort_24 : decode cBE_sort 24 = .ok (.iaload, 1) := by decide +kernel
theorem dBE_sort_25 : decode cBE_sort 25 = .ok (.aload_n 0, 1) := by decide +kernel
theorem dBE_sort_26 : decode cBE_sort 26 = .ok (.getfield 9, 3) := by decide +kernel
theorem dBE_sort_29 : decode cBE_sort 29 = .ok (.iconst 4, 1) := by decide +kernel
theorem dBE_sort_30 : decode cBE_sort 30 = .ok (.iaload, 1) := by decide +kernel
theorem dBE_sort_31 : decode cBE_sort 31 = .ok (.iadd, 1) := by decide +kernel
theorem dBE_sort_32 : decode cBE_sort 32 = .ok (.aload_n 0, 1) := by decide +kernel
theorem dBE_sort_33 : decode cBE_sort 33 = .ok (.getfield 9, 3) := by decide +kernel
theorem dBE_sort_36 : decode cBE_sort 36 = .ok (.bipush 8, 2) := by decide +kernel
theorem dBE_sort_38 : decode cBE_sort 38 = .ok (.iaload, 1) := by decide +kernel
theorem dBE_sort_39 : decode cBE_sort 39 = .ok (.iadd, 1) := by decide +kernel
theorem dBE_sort_40 : decode cBE_sort 40 = .ok (.imul, 1) := by decide +kernel
theorem dBE_sort_41 : decode cBE_sort 41 = .ok (.iconst 1, 1) := by decide +kernel
theorem dBE_sort_42 : decode cBE_sort 42 = .ok (.iadd, 1) := by decide +kernel
theorem dBE_sort_43 : decode cBE_sort 43 = .ok (.istore_n 3, 1) := by decide +kernel
theorem dBE_sort_44 : decode cBE_sort 44 = .ok (.iload_n 3, 1) := by decide +kernel
theorem dBE_sort_45 : decode cBE_sort 45 = .ok (.ifCond .lt 21, 3) := by decide +kernel
theorem dBE_sort_48 : decode cBE_sort 48 = .ok (.iload_n 3, 1) := by decide +kernel
theorem dBE_sort_49 : decode cBE_sort 49 = .ok (.getstatic 26, 3) := by decide +kernel
theorem dBE_sort_52 : decode cBE_sort 52 = .ok (.arraylength, 1) := by decide +kernel
theorem dBE_sort_53 : decode cBE_sort 53 = .ok (.if_icmp .ge 13, 3) := by decide +kernel
theorem dBE_sort_56 : decode cBE_sort 56 = .ok (.iload_n 2, 1) := by decide +kernel
theorem dBE_sort_57 : decode cBE_sort 57 = .ok (.getstatic 26, 3) := by decide +kernel
theorem dBE_sort_60 : decode cBE_sort 60 = .ok (.iload_n 3, 1) := by decide +kernel
theorem dBE_sort_61 : decode cBE_sort 61 = .ok (.iaload, 1) := by decide +kernel
theorem dBE_sort_62 : decode cBE_sort 62 = .ok (.imul, 1) := by decide +kernel
theorem dBE_sort_63 : decode cBE_sort 63 = .ok (.goto 4, 3) := by decide +kernel
theorem dBE_sort_66 : decode cBE_sort 66 = .ok (.iconst 0, 1) := by decide +kernel
theorem dBE_sort_67 : decode cBE_sort 67 = .ok (.ireturn, 1) := by decide +kernel
theorem dBE_turns_0 : decode cBE_turns 0 = .ok (.iload_n 1, 1) := by decide +kernel
theorem dBE_turns_1 : decode cBE_turns 1 = .ok (.istore_n 2, 1) := by decide +kernel
theorem dBE_turns_2 : decode cBE_turns 2 = .ok (.iconst 1, 1) := by decide +kernel
theorem dBE_turns_3 : decode cBE_turns 3 = .ok (.istore_n 3, 1) := by decide +kernel
theorem dBE_turns_4 : decode cBE_turns 4 = .ok (.iload_n 2, 1) := by decide +kernel
theorem dBE_turns_5 : decode cBE_turns 5 = .ok (.iconst (-1), 1) := by decide +kernel
theorem dBE_turns_6 : decode cBE_turns 6 = .ok (.if_icmp .eq 31, 3) := by decide +kernel
theorem dBE_turns_9 : decode cBE_turns 9 = .ok (.iload_n 3, 1) := by decide +kernel
theorem dBE_turns_10 : decode cBE_turns 10 = .ok (.sipush 192, 3) := by decide +kernel
theorem dBE_turns_13 : decode cBE_turns 13 = .ok (.if_icmp .gt 24, 3) := by decide +kernel
theorem dBE_turns_16 : decode cBE_turns 16 = .ok (.iload_n 2, 1) := by decide +kernel
theorem dBE_turns_17 : decode cBE_turns 17 = .ok (.ldc 33, 2) := by decide +kernel
theorem dBE_turns_19 : decode cBE_turns 19 = .ok (.if_icmp .ne 5, 3) := by decide +kernel
theorem dBE_turns_22 : decode cBE_turns 22 = .ok (.iload_n 3, 1) := by decide +kernel
theorem dBE_turns_23 : decode cBE_turns 23 = .ok (.ireturn, 1) := by decide +kernel
theorem dBE_turns_24 : decode cBE_turns 24 = .ok (.aload_n 0, 1) := by decide +kernel
theorem dBE_turns_25 : decode cBE_turns 25 = .ok (.iload_n 2, 1) := by decide +kernel
theorem dBE_turns_26 : decode cBE_turns 26 = .ok (.iload_n 1, 1) := by decide +kernel
theorem dBE_turns_27 : decode cBE_turns 27 = .ok (.invokevirtual 34, 3) := by decide +kernel
theorem dBE_turns_30 : decode cBE_turns 30 = .ok (.istore_n 2, 1) := by decide +kernel
theorem dBE_turns_31 : decode cBE_turns 31 = .ok (.iinc 3 1, 3) := by decide +kernel
theorem dBE_turns_34 : decode cBE_turns 34 = .ok (.goto (-30), 3) := by decide +kernel
theorem dBE_turns_37 : decode cBE_turns 37 = .ok (.iconst (-1), 1) := by decide +kernel
theorem dBE_turns_38 : decode cBE_turns 38 = .ok (.ireturn, 1) := by decide +kernel
theorem dBE_moved_0 : decode cBE_moved 0 = .ok (.iload_n 1, 1) := by decide +kernel
theorem dBE_moved_1 : decode cBE_moved 1 = .ok (.aload_n 0, 1) := by decide +kernel
theorem dBE_moved_2 : decode cBE_moved 2 = .ok (.getfield 9, 3) := by decide +kernel
theorem dBE_moved_5 : decode cBE_moved 5 = .ok (.invokestatic 18, 3) := by decide +kernel
theorem dBE_moved_8 : decode cBE_moved 8 = .ok (.aload_n 0, 1) := by decide +kernel
theorem dBE_moved_9 : decode cBE_moved 9 = .ok (.iload_n 1, 1) := by decide +kernel
theorem dBE_moved_10 : decode cBE_moved 10 = .ok (.sipush 13824, 3) := by decide +kernel
theorem dBE_moved_13 : decode cBE_moved 13 = .ok (.irem, 1) := by decide +kernel
theorem dBE_moved_14 : decode cBE_moved 14 = .ok (.iload_n 2, 1) := by decide +kernel
theorem dBE_moved_15 : decode cBE_moved 15 = .ok (.invokevirtual 29, 3) := by decide +kernel
theorem dBE_moved_18 : decode cBE_moved 18 = .ok (.ireturn, 1) := by decide +kernel
