/-! decode rows: written by wip/whole/names.py -/
theorem dAS_init_0 : decode cAS_init 0 = .ok (.aload_n 0, 1) := by decide +kernel
theorem dAS_init_1 : decode cAS_init 1 = .ok (.invokespecial 3, 3) := by decide +kernel
theorem dAS_init_4 : decode cAS_init 4 = .ok (.aload_n 1, 1) := by decide +kernel
theorem dAS_init_5 : decode cAS_init 5 = .ok (.invokevirtual 9, 3) := by decide +kernel
theorem dAS_init_8 : decode cAS_init 8 = .ok (.istore 4, 2) := by decide +kernel
theorem dAS_init_10 : decode cAS_init 10 = .ok (.aload_n 0, 1) := by decide +kernel
theorem dAS_init_11 : decode cAS_init 11 = .ok (.iload 4, 2) := by decide +kernel
theorem dAS_init_13 : decode cAS_init 13 = .ok (.newarray .int, 2) := by decide +kernel
theorem dAS_init_15 : decode cAS_init 15 = .ok (.putfield 15, 3) := by decide +kernel
theorem dAS_init_18 : decode cAS_init 18 = .ok (.aload_n 0, 1) := by decide +kernel
theorem dAS_init_19 : decode cAS_init 19 = .ok (.iload 4, 2) := by decide +kernel
theorem dAS_init_21 : decode cAS_init 21 = .ok (.newarray .int, 2) := by decide +kernel
theorem dAS_init_23 : decode cAS_init 23 = .ok (.putfield 21, 3) := by decide +kernel
theorem dAS_init_26 : decode cAS_init 26 = .ok (.aload_n 0, 1) := by decide +kernel
theorem dAS_init_27 : decode cAS_init 27 = .ok (.iload 4, 2) := by decide +kernel
theorem dAS_init_29 : decode cAS_init 29 = .ok (.putfield 24, 3) := by decide +kernel
theorem dAS_init_32 : decode cAS_init 32 = .ok (.aload_n 3, 1) := by decide +kernel
theorem dAS_init_33 : decode cAS_init 33 = .ok (.invokevirtual 28, 3) := by decide +kernel
theorem dAS_init_36 : decode cAS_init 36 = .ok (.iconst 0, 1) := by decide +kernel
theorem dAS_init_37 : decode cAS_init 37 = .ok (.istore 5, 2) := by decide +kernel
theorem dAS_init_39 : decode cAS_init 39 = .ok (.iload 5, 2) := by decide +kernel
theorem dAS_init_41 : decode cAS_init 41 = .ok (.iload 4, 2) := by decide +kernel
theorem dAS_init_43 : decode cAS_init 43 = .ok (.if_icmp .ge 29, 3) := by decide +kernel
theorem dAS_init_46 : decode cAS_init 46 = .ok (.aload_n 0, 1) := by decide +kernel
theorem dAS_init_47 : decode cAS_init 47 = .ok (.getfield 15, 3) := by decide +kernel
theorem dAS_init_50 : decode cAS_init 50 = .ok (.iload 5, 2) := by decide +kernel
theorem dAS_init_52 : decode cAS_init 52 = .ok (.iload 5, 2) := by decide +kernel
theorem dAS_init_54 : decode cAS_init 54 = .ok (.iastore, 1) := by decide +kernel
theorem dAS_init_55 : decode cAS_init 55 = .ok (.aload_n 3, 1) := by decide +kernel
theorem dAS_init_56 : decode cAS_init 56 = .ok (.aload_n 1, 1) := by decide +kernel
theorem dAS_init_57 : decode cAS_init 57 = .ok (.iload 5, 2) := by decide +kernel
theorem dAS_init_59 : decode cAS_init 59 = .ok (.invokevirtual 33, 3) := by decide +kernel
theorem dAS_init_62 : decode cAS_init 62 = .ok (.invokevirtual 37, 3) := by decide +kernel
theorem dAS_init_65 : decode cAS_init 65 = .ok (.pop, 1) := by decide +kernel
theorem dAS_init_66 : decode cAS_init 66 = .ok (.iinc 5 1, 3) := by decide +kernel
theorem dAS_init_69 : decode cAS_init 69 = .ok (.goto (-30), 3) := by decide +kernel
theorem dAS_init_72 : decode cAS_init 72 = .ok (.iload 4, 2) := by decide +kernel
theorem dAS_init_74 : decode cAS_init 74 = .ok (.newarray .int, 2) := by decide +kernel
theorem dAS_init_76 : decode cAS_init 76 = .ok (.astore 5, 2) := by decide +kernel
theorem dAS_init_78 : decode cAS_init 78 = .ok (.iconst 0, 1) := by decide +kernel
theorem dAS_init_79 : decode cAS_init 79 = .ok (.istore 6, 2) := by decide +kernel
theorem dAS_init_81 : decode cAS_init 81 = .ok (.iload 6, 2) := by decide +kernel
theorem dAS_init_83 : decode cAS_init 83 = .ok (.aload_n 3, 1) := by decide +kernel
theorem dAS_init_84 : decode cAS_init 84 = .ok (.invokevirtual 41, 3) := by decide +kernel
theorem dAS_init_87 : decode cAS_init 87 = .ok (.if_icmp .ge 23, 3) := by decide +kernel
theorem dAS_init_90 : decode cAS_init 90 = .ok (.aload_n 0, 1) := by decide +kernel
theorem dAS_init_91 : decode cAS_init 91 = .ok (.aload_n 3, 1) := by decide +kernel
theorem dAS_init_92 : decode cAS_init 92 = .ok (.iload 6, 2) := by decide +kernel
theorem dAS_init_94 : decode cAS_init 94 = .ok (.invokevirtual 44, 3) := by decide +kernel
theorem dAS_init_97 : decode cAS_init 97 = .ok (.aload_n 1, 1) := by decide +kernel
theorem dAS_init_98 : decode cAS_init 98 = .ok (.aload_n 2, 1) := by decide +kernel
theorem dAS_init_99 : decode cAS_init 99 = .ok (.aload 5, 2) := by decide +kernel
theorem dAS_init_101 : decode cAS_init 101 = .ok (.invokevirtual 47, 3) := by decide +kernel
theorem dAS_init_104 : decode cAS_init 104 = .ok (.iinc 6 1, 3) := by decide +kernel
theorem dAS_init_107 : decode cAS_init 107 = .ok (.goto (-26), 3) := by decide +kernel
theorem dAS_init_110 : decode cAS_init 110 = .ok (.iconst 0, 1) := by decide +kernel
theorem dAS_init_111 : decode cAS_init 111 = .ok (.istore 6, 2) := by decide +kernel
theorem dAS_init_113 : decode cAS_init 113 = .ok (.iload 6, 2) := by decide +kernel
theorem dAS_init_115 : decode cAS_init 115 = .ok (.iload 4, 2) := by decide +kernel
theorem dAS_init_117 : decode cAS_init 117 = .ok (.if_icmp .ge 41, 3) := by decide +kernel
theorem dAS_init_120 : decode cAS_init 120 = .ok (.aload_n 0, 1) := by decide +kernel
theorem dAS_init_121 : decode cAS_init 121 = .ok (.getfield 15, 3) := by decide +kernel
theorem dAS_init_124 : decode cAS_init 124 = .ok (.iload 6, 2) := by decide +kernel
theorem dAS_init_126 : decode cAS_init 126 = .ok (.iaload, 1) := by decide +kernel
theorem dAS_init_127 : decode cAS_init 127 = .ok (.istore 7, 2) := by decide +kernel
theorem dAS_init_129 : decode cAS_init 129 = .ok (.iload 7, 2) := by decide +kernel
theorem dAS_init_131 : decode cAS_init 131 = .ok (.ifCond .lt 21, 3) := by decide +kernel
theorem dAS_init_134 : decode cAS_init 134 = .ok (.iload 7, 2) := by decide +kernel
theorem dAS_init_136 : decode cAS_init 136 = .ok (.iload 4, 2) := by decide +kernel
theorem dAS_init_138 : decode cAS_init 138 = .ok (.if_icmp .ge 14, 3) := by decide +kernel
theorem dAS_init_141 : decode cAS_init 141 = .ok (.aload_n 0, 1) := by decide +kernel
theorem dAS_init_142 : decode cAS_init 142 = .ok (.getfield 21, 3) := by decide +kernel
theorem dAS_init_145 : decode cAS_init 145 = .ok (.iload 7, 2) := by decide +kernel
theorem dAS_init_147 : decode cAS_init 147 = .ok (.dup2, 1) := by decide +kernel
theorem dAS_init_148 : decode cAS_init 148 = .ok (.iaload, 1) := by decide +kernel
theorem dAS_init_149 : decode cAS_init 149 = .ok (.iconst 1, 1) := by decide +kernel
theorem dAS_init_150 : decode cAS_init 150 = .ok (.iadd, 1) := by decide +kernel
theorem dAS_init_151 : decode cAS_init 151 = .ok (.iastore, 1) := by decide +kernel
theorem dAS_init_152 : decode cAS_init 152 = .ok (.iinc 6 1, 3) := by decide +kernel
theorem dAS_init_155 : decode cAS_init 155 = .ok (.goto (-42), 3) := by decide +kernel
theorem dAS_init_158 : decode cAS_init 158 = .ok (.return_, 1) := by decide +kernel
theorem dAS_joinBy_0 : decode cAS_joinBy 0 = .ok (.iconst 0, 1) := by decide +kernel
theorem dAS_joinBy_1 : decode cAS_joinBy 1 = .ok (.istore 5, 2) := by decide +kernel
theorem dAS_joinBy_3 : decode cAS_joinBy 3 = .ok (.iload 5, 2) := by decide +kernel
theorem dAS_joinBy_5 : decode cAS_joinBy 5 = .ok (.aload 4, 2) := by decide +kernel
theorem dAS_joinBy_7 : decode cAS_joinBy 7 = .ok (.arraylength, 1) := by decide +kernel
theorem dAS_joinBy_8 : decode cAS_joinBy 8 = .ok (.if_icmp .ge 46, 3) := by decide +kernel
theorem dAS_joinBy_11 : decode cAS_joinBy 11 = .ok (.aload_n 2, 1) := by decide +kernel
theorem dAS_joinBy_12 : decode cAS_joinBy 12 = .ok (.aload_n 3, 1) := by decide +kernel
theorem dAS_joinBy_13 : decode cAS_joinBy 13 = .ok (.aload_n 2, 1) := by decide +kernel
theorem dAS_joinBy_14 : decode cAS_joinBy 14 = .ok (.iload 5, 2) := by decide +kernel
theorem dAS_joinBy_16 : decode cAS_joinBy 16 = .ok (.invokevirtual 33, 3) := by decide +kernel
theorem dAS_joinBy_19 : decode cAS_joinBy 19 = .ok (.iload_n 1, 1) := by decide +kernel
theorem dAS_joinBy_20 : decode cAS_joinBy 20 = .ok (.invokevirtual 51, 3) := by decide +kernel
theorem dAS_joinBy_23 : decode cAS_joinBy 23 = .ok (.invokevirtual 57, 3) := by decide +kernel
theorem dAS_joinBy_26 : decode cAS_joinBy 26 = .ok (.istore 6, 2) := by decide +kernel
theorem dAS_joinBy_28 : decode cAS_joinBy 28 = .ok (.iload 6, 2) := by decide +kernel
theorem dAS_joinBy_30 : decode cAS_joinBy 30 = .ok (.ifCond .lt 18, 3) := by decide +kernel
theorem dAS_joinBy_33 : decode cAS_joinBy 33 = .ok (.iload 6, 2) := by decide +kernel
theorem dAS_joinBy_35 : decode cAS_joinBy 35 = .ok (.aload 4, 2) := by decide +kernel
theorem dAS_joinBy_37 : decode cAS_joinBy 37 = .ok (.arraylength, 1) := by decide +kernel
theorem dAS_joinBy_38 : decode cAS_joinBy 38 = .ok (.if_icmp .ge 10, 3) := by decide +kernel
theorem dAS_joinBy_41 : decode cAS_joinBy 41 = .ok (.aload 4, 2) := by decide +kernel
theorem dAS_joinBy_43 : decode cAS_joinBy 43 = .ok (.iload 6, 2) := by decide +kernel
theorem dAS_joinBy_45 : decode cAS_joinBy 45 = .ok (.iload 5, 2) := by decide +kernel
theorem dAS_joinBy_47 : decode cAS_joinBy 47 = .ok (.iastore, 1) := by decide +kernel
theorem dAS_joinBy_48 : decode cAS_joinBy 48 = .ok (.iinc 5 1, 3) := by decide +kernel
theorem dAS_joinBy_51 : decode cAS_joinBy 51 = .ok (.goto (-48), 3) := by decide +kernel
theorem dAS_joinBy_54 : decode cAS_joinBy 54 = .ok (.iconst 0, 1) := by decide +kernel
theorem dAS_joinBy_55 : decode cAS_joinBy 55 = .ok (.istore 5, 2) := by decide +kernel
theorem dAS_joinBy_57 : decode cAS_joinBy 57 = .ok (.iload 5, 2) := by decide +kernel
theorem dAS_joinBy_59 : decode cAS_joinBy 59 = .ok (.aload 4, 2) := by decide +kernel
theorem dAS_joinBy_61 : decode cAS_joinBy 61 = .ok (.arraylength, 1) := by decide +kernel
theorem dAS_joinBy_62 : decode cAS_joinBy 62 = .ok (.if_icmp .ge 50, 3) := by decide +kernel
theorem dAS_joinBy_65 : decode cAS_joinBy 65 = .ok (.aload_n 2, 1) := by decide +kernel
theorem dAS_joinBy_66 : decode cAS_joinBy 66 = .ok (.aload_n 3, 1) := by decide +kernel
theorem dAS_joinBy_67 : decode cAS_joinBy 67 = .ok (.iload_n 1, 1) := by decide +kernel
theorem dAS_joinBy_68 : decode cAS_joinBy 68 = .ok (.aload_n 2, 1) := by decide +kernel
theorem dAS_joinBy_69 : decode cAS_joinBy 69 = .ok (.iload 5, 2) := by decide +kernel
theorem dAS_joinBy_71 : decode cAS_joinBy 71 = .ok (.invokevirtual 33, 3) := by decide +kernel
theorem dAS_joinBy_74 : decode cAS_joinBy 74 = .ok (.invokevirtual 51, 3) := by decide +kernel
theorem dAS_joinBy_77 : decode cAS_joinBy 77 = .ok (.invokevirtual 57, 3) := by decide +kernel
theorem dAS_joinBy_80 : decode cAS_joinBy 80 = .ok (.istore 6, 2) := by decide +kernel
theorem dAS_joinBy_82 : decode cAS_joinBy 82 = .ok (.iload 6, 2) := by decide +kernel
theorem dAS_joinBy_84 : decode cAS_joinBy 84 = .ok (.ifCond .lt 22, 3) := by decide +kernel
theorem dAS_joinBy_87 : decode cAS_joinBy 87 = .ok (.iload 6, 2) := by decide +kernel
theorem dAS_joinBy_89 : decode cAS_joinBy 89 = .ok (.aload 4, 2) := by decide +kernel
theorem dAS_joinBy_91 : decode cAS_joinBy 91 = .ok (.arraylength, 1) := by decide +kernel
theorem dAS_joinBy_92 : decode cAS_joinBy 92 = .ok (.if_icmp .ge 14, 3) := by decide +kernel
theorem dAS_joinBy_95 : decode cAS_joinBy 95 = .ok (.aload_n 0, 1) := by decide +kernel
theorem dAS_joinBy_96 : decode cAS_joinBy 96 = .ok (.iload 5, 2) := by decide +kernel
theorem dAS_joinBy_98 : decode cAS_joinBy 98 = .ok (.aload 4, 2) := by decide +kernel
theorem dAS_joinBy_100 : decode cAS_joinBy 100 = .ok (.iload 6, 2) := by decide +kernel
theorem dAS_joinBy_102 : decode cAS_joinBy 102 = .ok (.iaload, 1) := by decide +kernel
theorem dAS_joinBy_103 : decode cAS_joinBy 103 = .ok (.invokevirtual 60, 3) := by decide +kernel
theorem dAS_joinBy_106 : decode cAS_joinBy 106 = .ok (.iinc 5 1, 3) := by decide +kernel
theorem dAS_joinBy_109 : decode cAS_joinBy 109 = .ok (.goto (-52), 3) := by decide +kernel
theorem dAS_joinBy_112 : decode cAS_joinBy 112 = .ok (.return_, 1) := by decide +kernel
theorem dAS_join_0 : decode cAS_join 0 = .ok (.iload_n 1, 1) := by decide +kernel
theorem dAS_join_1 : decode cAS_join 1 = .ok (.ifCond .lt 40, 3) := by decide +kernel
theorem dAS_join_4 : decode cAS_join 4 = .ok (.iload_n 1, 1) := by decide +kernel
theorem dAS_join_5 : decode cAS_join 5 = .ok (.aload_n 0, 1) := by decide +kernel
theorem dAS_join_6 : decode cAS_join 6 = .ok (.getfield 15, 3) := by decide +kernel
theorem dAS_join_9 : decode cAS_join 9 = .ok (.arraylength, 1) := by decide +kernel
theorem dAS_join_10 : decode cAS_join 10 = .ok (.if_icmp .ge 31, 3) := by decide +kernel
theorem dAS_join_13 : decode cAS_join 13 = .ok (.iload_n 2, 1) := by decide +kernel
theorem dAS_join_14 : decode cAS_join 14 = .ok (.ifCond .lt 27, 3) := by decide +kernel
theorem dAS_join_17 : decode cAS_join 17 = .ok (.iload_n 2, 1) := by decide +kernel
theorem dAS_join_18 : decode cAS_join 18 = .ok (.aload_n 0, 1) := by decide +kernel
theorem dAS_join_19 : decode cAS_join 19 = .ok (.getfield 15, 3) := by decide +kernel
theorem dAS_join_22 : decode cAS_join 22 = .ok (.arraylength, 1) := by decide +kernel
theorem dAS_join_23 : decode cAS_join 23 = .ok (.if_icmp .ge 18, 3) := by decide +kernel
theorem dAS_join_26 : decode cAS_join 26 = .ok (.aload_n 0, 1) := by decide +kernel
theorem dAS_join_27 : decode cAS_join 27 = .ok (.getfield 15, 3) := by decide +kernel
theorem dAS_join_30 : decode cAS_join 30 = .ok (.iload_n 1, 1) := by decide +kernel
theorem dAS_join_31 : decode cAS_join 31 = .ok (.iaload, 1) := by decide +kernel
theorem dAS_join_32 : decode cAS_join 32 = .ok (.aload_n 0, 1) := by decide +kernel
theorem dAS_join_33 : decode cAS_join 33 = .ok (.getfield 15, 3) := by decide +kernel
theorem dAS_join_36 : decode cAS_join 36 = .ok (.iload_n 2, 1) := by decide +kernel
theorem dAS_join_37 : decode cAS_join 37 = .ok (.iaload, 1) := by decide +kernel
theorem dAS_join_38 : decode cAS_join 38 = .ok (.if_icmp .ne 4, 3) := by decide +kernel
theorem dAS_join_41 : decode cAS_join 41 = .ok (.return_, 1) := by decide +kernel
theorem dAS_join_42 : decode cAS_join 42 = .ok (.aload_n 0, 1) := by decide +kernel
theorem dAS_join_43 : decode cAS_join 43 = .ok (.getfield 15, 3) := by decide +kernel
theorem dAS_join_46 : decode cAS_join 46 = .ok (.iload_n 1, 1) := by decide +kernel
theorem dAS_join_47 : decode cAS_join 47 = .ok (.iaload, 1) := by decide +kernel
theorem dAS_join_48 : decode cAS_join 48 = .ok (.istore_n 3, 1) := by decide +kernel
theorem dAS_join_49 : decode cAS_join 49 = .ok (.aload_n 0, 1) := by decide +kernel
theorem dAS_join_50 : decode cAS_join 50 = .ok (.getfield 15, 3) := by decide +kernel
theorem dAS_join_53 : decode cAS_join 53 = .ok (.iload_n 2, 1) := by decide +kernel
theorem dAS_join_54 : decode cAS_join 54 = .ok (.iaload, 1) := by decide +kernel
theorem dAS_join_55 : decode cAS_join 55 = .ok (.istore 4, 2) := by decide +kernel
theorem dAS_join_57 : decode cAS_join 57 = .ok (.iconst 0, 1) := by decide +kernel
theorem dAS_join_58 : decode cAS_join 58 = .ok (.istore 5, 2) := by decide +kernel
theorem dAS_join_60 : decode cAS_join 60 = .ok (.iload 5, 2) := by decide +kernel
theorem dAS_join_62 : decode cAS_join 62 = .ok (.aload_n 0, 1) := by decide +kernel
theorem dAS_join_63 : decode cAS_join 63 = .ok (.getfield 15, 3) := by decide +kernel
theorem dAS_join_66 : decode cAS_join 66 = .ok (.arraylength, 1) := by decide +kernel
theorem dAS_join_67 : decode cAS_join 67 = .ok (.if_icmp .ge 29, 3) := by decide +kernel
theorem dAS_join_70 : decode cAS_join 70 = .ok (.aload_n 0, 1) := by decide +kernel
theorem dAS_join_71 : decode cAS_join 71 = .ok (.getfield 15, 3) := by decide +kernel
theorem dAS_join_74 : decode cAS_join 74 = .ok (.iload 5, 2) := by decide +kernel
theorem dAS_join_76 : decode cAS_join 76 = .ok (.iaload, 1) := by decide +kernel
theorem dAS_join_77 : decode cAS_join 77 = .ok (.iload 4, 2) := by decide +kernel
theorem dAS_join_79 : decode cAS_join 79 = .ok (.if_icmp .ne 11, 3) := by decide +kernel
theorem dAS_join_82 : decode cAS_join 82 = .ok (.aload_n 0, 1) := by decide +kernel
theorem dAS_join_83 : decode cAS_join 83 = .ok (.getfield 15, 3) := by decide +kernel
theorem dAS_join_86 : decode cAS_join 86 = .ok (.iload 5, 2) := by decide +kernel
theorem dAS_join_88 : decode cAS_join 88 = .ok (.iload_n 3, 1) := by decide +kernel
theorem dAS_join_89 : decode cAS_join 89 = .ok (.iastore, 1) := by decide +kernel
theorem dAS_join_90 : decode cAS_join 90 = .ok (.iinc 5 1, 3) := by decide +kernel
theorem dAS_join_93 : decode cAS_join 93 = .ok (.goto (-33), 3) := by decide +kernel
theorem dAS_join_96 : decode cAS_join 96 = .ok (.aload_n 0, 1) := by decide +kernel
theorem dAS_join_97 : decode cAS_join 97 = .ok (.dup, 1) := by decide +kernel
theorem dAS_join_98 : decode cAS_join 98 = .ok (.getfield 24, 3) := by decide +kernel
theorem dAS_join_101 : decode cAS_join 101 = .ok (.iconst 1, 1) := by decide +kernel
theorem dAS_join_102 : decode cAS_join 102 = .ok (.isub, 1) := by decide +kernel
theorem dAS_join_103 : decode cAS_join 103 = .ok (.putfield 24, 3) := by decide +kernel
theorem dAS_join_106 : decode cAS_join 106 = .ok (.return_, 1) := by decide +kernel
theorem dAS_count_0 : decode cAS_count 0 = .ok (.aload_n 0, 1) := by decide +kernel
theorem dAS_count_1 : decode cAS_count 1 = .ok (.getfield 24, 3) := by decide +kernel
theorem dAS_count_4 : decode cAS_count 4 = .ok (.ireturn, 1) := by decide +kernel
theorem dAS_sizeOf_0 : decode cAS_sizeOf 0 = .ok (.iload_n 1, 1) := by decide +kernel
theorem dAS_sizeOf_1 : decode cAS_sizeOf 1 = .ok (.ifCond .lt 21, 3) := by decide +kernel
theorem dAS_sizeOf_4 : decode cAS_sizeOf 4 = .ok (.iload_n 1, 1) := by decide +kernel
theorem dAS_sizeOf_5 : decode cAS_sizeOf 5 = .ok (.aload_n 0, 1) := by decide +kernel
theorem dAS_sizeOf_6 : decode cAS_sizeOf 6 = .ok (.getfield 15, 3) := by decide +kernel
theorem dAS_sizeOf_9 : decode cAS_sizeOf 9 = .ok (.arraylength, 1) := by decide +kernel
theorem dAS_sizeOf_10 : decode cAS_sizeOf 10 = .ok (.if_icmp .ge 12, 3) := by decide +kernel
theorem dAS_sizeOf_13 : decode cAS_sizeOf 13 = .ok (.aload_n 0, 1) := by decide +kernel
theorem dAS_sizeOf_14 : decode cAS_sizeOf 14 = .ok (.getfield 15, 3) := by decide +kernel
theorem dAS_sizeOf_17 : decode cAS_sizeOf 17 = .ok (.iload_n 1, 1) := by decide +kernel
theorem dAS_sizeOf_18 : decode cAS_sizeOf 18 = .ok (.iaload, 1) := by decide +kernel
theorem dAS_sizeOf_19 : decode cAS_sizeOf 19 = .ok (.goto 4, 3) := by decide +kernel
theorem dAS_sizeOf_22 : decode cAS_sizeOf 22 = .ok (.iconst (-1), 1) := by decide +kernel
theorem dAS_sizeOf_23 : decode cAS_sizeOf 23 = .ok (.istore_n 2, 1) := by decide +kernel
theorem dAS_sizeOf_24 : decode cAS_sizeOf 24 = .ok (.iload_n 2, 1) := by decide +kernel
theorem dAS_sizeOf_25 : decode cAS_sizeOf 25 = .ok (.ifCond .lt 21, 3) := by decide +kernel
theorem dAS_sizeOf_28 : decode cAS_sizeOf 28 = .ok (.iload_n 2, 1) := by decide +kernel
theorem dAS_sizeOf_29 : decode cAS_sizeOf 29 = .ok (.aload_n 0, 1) := by decide +kernel
theorem dAS_sizeOf_30 : decode cAS_sizeOf 30 = .ok (.getfield 21, 3) := by decide +kernel
theorem dAS_sizeOf_33 : decode cAS_sizeOf 33 = .ok (.arraylength, 1) := by decide +kernel
theorem dAS_sizeOf_34 : decode cAS_sizeOf 34 = .ok (.if_icmp .ge 12, 3) := by decide +kernel
theorem dAS_sizeOf_37 : decode cAS_sizeOf 37 = .ok (.aload_n 0, 1) := by decide +kernel
theorem dAS_sizeOf_38 : decode cAS_sizeOf 38 = .ok (.getfield 21, 3) := by decide +kernel
theorem dAS_sizeOf_41 : decode cAS_sizeOf 41 = .ok (.iload_n 2, 1) := by decide +kernel
theorem dAS_sizeOf_42 : decode cAS_sizeOf 42 = .ok (.iaload, 1) := by decide +kernel
theorem dAS_sizeOf_43 : decode cAS_sizeOf 43 = .ok (.goto 4, 3) := by decide +kernel
theorem dAS_sizeOf_46 : decode cAS_sizeOf 46 = .ok (.iconst (-1), 1) := by decide +kernel
theorem dAS_sizeOf_47 : decode cAS_sizeOf 47 = .ok (.ireturn, 1) := by decide +kernel
