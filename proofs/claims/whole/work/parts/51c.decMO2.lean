/-! decode rows: written by wip/whole/names.py -/
theorem dMO_know_80 : decode cMO_know 80 = .ok (.invokevirtual 102, 3) := by decide +kernel
theorem dMO_know_83 : decode cMO_know 83 = .ok (.invokevirtual 119, 3) := by decide +kernel
theorem dMO_know_86 : decode cMO_know 86 = .ok (.iastore, 1) := by decide +kernel
theorem dMO_know_87 : decode cMO_know 87 = .ok (.iinc 4 1, 3) := by decide +kernel
theorem dMO_know_90 : decode cMO_know 90 = .ok (.goto (-56), 3) := by decide +kernel
theorem dMO_know_93 : decode cMO_know 93 = .ok (.iinc 3 1, 3) := by decide +kernel
theorem dMO_know_96 : decode cMO_know 96 = .ok (.goto (-70), 3) := by decide +kernel
theorem dMO_know_99 : decode cMO_know 99 = .ok (.aload_n 0, 1) := by decide +kernel
theorem dMO_know_100 : decode cMO_know 100 = .ok (.getfield 34, 3) := by decide +kernel
theorem dMO_know_103 : decode cMO_know 103 = .ok (.iload_n 1, 1) := by decide +kernel
theorem dMO_know_104 : decode cMO_know 104 = .ok (.aload_n 0, 1) := by decide +kernel
theorem dMO_know_105 : decode cMO_know 105 = .ok (.iload_n 1, 1) := by decide +kernel
theorem dMO_know_106 : decode cMO_know 106 = .ok (.iload_n 2, 1) := by decide +kernel
theorem dMO_know_107 : decode cMO_know 107 = .ok (.invokevirtual 126, 3) := by decide +kernel
theorem dMO_know_110 : decode cMO_know 110 = .ok (.iastore, 1) := by decide +kernel
theorem dMO_know_111 : decode cMO_know 111 = .ok (.aload_n 0, 1) := by decide +kernel
theorem dMO_know_112 : decode cMO_know 112 = .ok (.iload_n 1, 1) := by decide +kernel
theorem dMO_know_113 : decode cMO_know 113 = .ok (.iload_n 2, 1) := by decide +kernel
theorem dMO_know_114 : decode cMO_know 114 = .ok (.invokevirtual 129, 3) := by decide +kernel
theorem dMO_know_117 : decode cMO_know 117 = .ok (.return_, 1) := by decide +kernel
theorem dMO_countAlike_0 : decode cMO_countAlike 0 = .ok (.iconst 0, 1) := by decide +kernel
theorem dMO_countAlike_1 : decode cMO_countAlike 1 = .ok (.istore_n 3, 1) := by decide +kernel
theorem dMO_countAlike_2 : decode cMO_countAlike 2 = .ok (.iload_n 3, 1) := by decide +kernel
theorem dMO_countAlike_3 : decode cMO_countAlike 3 = .ok (.iload_n 2, 1) := by decide +kernel
theorem dMO_countAlike_4 : decode cMO_countAlike 4 = .ok (.if_icmp .ge 16, 3) := by decide +kernel
theorem dMO_countAlike_7 : decode cMO_countAlike 7 = .ok (.aload_n 0, 1) := by decide +kernel
theorem dMO_countAlike_8 : decode cMO_countAlike 8 = .ok (.getfield 55, 3) := by decide +kernel
theorem dMO_countAlike_11 : decode cMO_countAlike 11 = .ok (.iload_n 3, 1) := by decide +kernel
theorem dMO_countAlike_12 : decode cMO_countAlike 12 = .ok (.iconst 0, 1) := by decide +kernel
theorem dMO_countAlike_13 : decode cMO_countAlike 13 = .ok (.iastore, 1) := by decide +kernel
theorem dMO_countAlike_14 : decode cMO_countAlike 14 = .ok (.iinc 3 1, 3) := by decide +kernel
theorem dMO_countAlike_17 : decode cMO_countAlike 17 = .ok (.goto (-15), 3) := by decide +kernel
theorem dMO_countAlike_20 : decode cMO_countAlike 20 = .ok (.iconst 0, 1) := by decide +kernel
theorem dMO_countAlike_21 : decode cMO_countAlike 21 = .ok (.istore_n 3, 1) := by decide +kernel
theorem dMO_countAlike_22 : decode cMO_countAlike 22 = .ok (.iconst 0, 1) := by decide +kernel
theorem dMO_countAlike_23 : decode cMO_countAlike 23 = .ok (.istore 4, 2) := by decide +kernel
theorem dMO_countAlike_25 : decode cMO_countAlike 25 = .ok (.iload 4, 2) := by decide +kernel
theorem dMO_countAlike_27 : decode cMO_countAlike 27 = .ok (.iload_n 2, 1) := by decide +kernel
theorem dMO_countAlike_28 : decode cMO_countAlike 28 = .ok (.if_icmp .ge 98, 3) := by decide +kernel
theorem dMO_countAlike_31 : decode cMO_countAlike 31 = .ok (.aload_n 0, 1) := by decide +kernel
theorem dMO_countAlike_32 : decode cMO_countAlike 32 = .ok (.getfield 55, 3) := by decide +kernel
theorem dMO_countAlike_35 : decode cMO_countAlike 35 = .ok (.iload 4, 2) := by decide +kernel
theorem dMO_countAlike_37 : decode cMO_countAlike 37 = .ok (.iaload, 1) := by decide +kernel
theorem dMO_countAlike_38 : decode cMO_countAlike 38 = .ok (.ifCond .eq 6, 3) := by decide +kernel
theorem dMO_countAlike_41 : decode cMO_countAlike 41 = .ok (.goto 79, 3) := by decide +kernel
theorem dMO_countAlike_44 : decode cMO_countAlike 44 = .ok (.iinc 3 1, 3) := by decide +kernel
theorem dMO_countAlike_47 : decode cMO_countAlike 47 = .ok (.iconst 0, 1) := by decide +kernel
theorem dMO_countAlike_48 : decode cMO_countAlike 48 = .ok (.istore 5, 2) := by decide +kernel
theorem dMO_countAlike_50 : decode cMO_countAlike 50 = .ok (.iload 5, 2) := by decide +kernel
theorem dMO_countAlike_52 : decode cMO_countAlike 52 = .ok (.iload_n 2, 1) := by decide +kernel
theorem dMO_countAlike_53 : decode cMO_countAlike 53 = .ok (.if_icmp .ge 67, 3) := by decide +kernel
theorem dMO_countAlike_56 : decode cMO_countAlike 56 = .ok (.aload_n 0, 1) := by decide +kernel
theorem dMO_countAlike_57 : decode cMO_countAlike 57 = .ok (.getfield 52, 3) := by decide +kernel
theorem dMO_countAlike_60 : decode cMO_countAlike 60 = .ok (.sipush 192, 3) := by decide +kernel
theorem dMO_countAlike_63 : decode cMO_countAlike 63 = .ok (.iload 5, 2) := by decide +kernel
theorem dMO_countAlike_65 : decode cMO_countAlike 65 = .ok (.imul, 1) := by decide +kernel
theorem dMO_countAlike_66 : decode cMO_countAlike 66 = .ok (.iload 4, 2) := by decide +kernel
theorem dMO_countAlike_68 : decode cMO_countAlike 68 = .ok (.iadd, 1) := by decide +kernel
theorem dMO_countAlike_69 : decode cMO_countAlike 69 = .ok (.iaload, 1) := by decide +kernel
theorem dMO_countAlike_70 : decode cMO_countAlike 70 = .ok (.istore 6, 2) := by decide +kernel
theorem dMO_countAlike_72 : decode cMO_countAlike 72 = .ok (.iconst 0, 1) := by decide +kernel
theorem dMO_countAlike_73 : decode cMO_countAlike 73 = .ok (.istore 7, 2) := by decide +kernel
theorem dMO_countAlike_75 : decode cMO_countAlike 75 = .ok (.iload 7, 2) := by decide +kernel
theorem dMO_countAlike_77 : decode cMO_countAlike 77 = .ok (.iload_n 2, 1) := by decide +kernel
theorem dMO_countAlike_78 : decode cMO_countAlike 78 = .ok (.if_icmp .ge 36, 3) := by decide +kernel
theorem dMO_countAlike_81 : decode cMO_countAlike 81 = .ok (.aload_n 0, 1) := by decide +kernel
theorem dMO_countAlike_82 : decode cMO_countAlike 82 = .ok (.getfield 52, 3) := by decide +kernel
theorem dMO_countAlike_85 : decode cMO_countAlike 85 = .ok (.sipush 192, 3) := by decide +kernel
theorem dMO_countAlike_88 : decode cMO_countAlike 88 = .ok (.iload 7, 2) := by decide +kernel
theorem dMO_countAlike_90 : decode cMO_countAlike 90 = .ok (.imul, 1) := by decide +kernel
theorem dMO_countAlike_91 : decode cMO_countAlike 91 = .ok (.iload 5, 2) := by decide +kernel
theorem dMO_countAlike_93 : decode cMO_countAlike 93 = .ok (.iadd, 1) := by decide +kernel
theorem dMO_countAlike_94 : decode cMO_countAlike 94 = .ok (.iaload, 1) := by decide +kernel
theorem dMO_countAlike_95 : decode cMO_countAlike 95 = .ok (.iload 6, 2) := by decide +kernel
theorem dMO_countAlike_97 : decode cMO_countAlike 97 = .ok (.if_icmp .ne 11, 3) := by decide +kernel
theorem dMO_countAlike_100 : decode cMO_countAlike 100 = .ok (.aload_n 0, 1) := by decide +kernel
theorem dMO_countAlike_101 : decode cMO_countAlike 101 = .ok (.getfield 55, 3) := by decide +kernel
theorem dMO_countAlike_104 : decode cMO_countAlike 104 = .ok (.iload 7, 2) := by decide +kernel
theorem dMO_countAlike_106 : decode cMO_countAlike 106 = .ok (.iload_n 3, 1) := by decide +kernel
theorem dMO_countAlike_107 : decode cMO_countAlike 107 = .ok (.iastore, 1) := by decide +kernel
theorem dMO_countAlike_108 : decode cMO_countAlike 108 = .ok (.iinc 7 1, 3) := by decide +kernel
theorem dMO_countAlike_111 : decode cMO_countAlike 111 = .ok (.goto (-36), 3) := by decide +kernel
theorem dMO_countAlike_114 : decode cMO_countAlike 114 = .ok (.iinc 5 1, 3) := by decide +kernel
theorem dMO_countAlike_117 : decode cMO_countAlike 117 = .ok (.goto (-67), 3) := by decide +kernel
theorem dMO_countAlike_120 : decode cMO_countAlike 120 = .ok (.iinc 4 1, 3) := by decide +kernel
theorem dMO_countAlike_123 : decode cMO_countAlike 123 = .ok (.goto (-98), 3) := by decide +kernel
theorem dMO_countAlike_126 : decode cMO_countAlike 126 = .ok (.iconst 0, 1) := by decide +kernel
theorem dMO_countAlike_127 : decode cMO_countAlike 127 = .ok (.istore 4, 2) := by decide +kernel
theorem dMO_countAlike_129 : decode cMO_countAlike 129 = .ok (.iload 4, 2) := by decide +kernel
theorem dMO_countAlike_131 : decode cMO_countAlike 131 = .ok (.iload_n 2, 1) := by decide +kernel
theorem dMO_countAlike_132 : decode cMO_countAlike 132 = .ok (.if_icmp .ge 69, 3) := by decide +kernel
theorem dMO_countAlike_135 : decode cMO_countAlike 135 = .ok (.iconst 0, 1) := by decide +kernel
theorem dMO_countAlike_136 : decode cMO_countAlike 136 = .ok (.istore 5, 2) := by decide +kernel
theorem dMO_countAlike_138 : decode cMO_countAlike 138 = .ok (.iconst 0, 1) := by decide +kernel
theorem dMO_countAlike_139 : decode cMO_countAlike 139 = .ok (.istore 6, 2) := by decide +kernel
theorem dMO_countAlike_141 : decode cMO_countAlike 141 = .ok (.iload 6, 2) := by decide +kernel
theorem dMO_countAlike_143 : decode cMO_countAlike 143 = .ok (.iload_n 2, 1) := by decide +kernel
theorem dMO_countAlike_144 : decode cMO_countAlike 144 = .ok (.if_icmp .ge 36, 3) := by decide +kernel
theorem dMO_countAlike_147 : decode cMO_countAlike 147 = .ok (.iload 5, 2) := by decide +kernel
theorem dMO_countAlike_149 : decode cMO_countAlike 149 = .ok (.aload_n 0, 1) := by decide +kernel
theorem dMO_countAlike_150 : decode cMO_countAlike 150 = .ok (.getfield 55, 3) := by decide +kernel
theorem dMO_countAlike_153 : decode cMO_countAlike 153 = .ok (.iload 4, 2) := by decide +kernel
theorem dMO_countAlike_155 : decode cMO_countAlike 155 = .ok (.iaload, 1) := by decide +kernel
theorem dMO_countAlike_156 : decode cMO_countAlike 156 = .ok (.aload_n 0, 1) := by decide +kernel
theorem dMO_countAlike_157 : decode cMO_countAlike 157 = .ok (.getfield 55, 3) := by decide +kernel
theorem dMO_countAlike_160 : decode cMO_countAlike 160 = .ok (.iload 6, 2) := by decide +kernel
theorem dMO_countAlike_162 : decode cMO_countAlike 162 = .ok (.iaload, 1) := by decide +kernel
theorem dMO_countAlike_163 : decode cMO_countAlike 163 = .ok (.if_icmp .ne 7, 3) := by decide +kernel
theorem dMO_countAlike_166 : decode cMO_countAlike 166 = .ok (.iconst 1, 1) := by decide +kernel
theorem dMO_countAlike_167 : decode cMO_countAlike 167 = .ok (.goto 4, 3) := by decide +kernel
theorem dMO_countAlike_170 : decode cMO_countAlike 170 = .ok (.iconst 0, 1) := by decide +kernel
theorem dMO_countAlike_171 : decode cMO_countAlike 171 = .ok (.iadd, 1) := by decide +kernel
theorem dMO_countAlike_172 : decode cMO_countAlike 172 = .ok (.istore 5, 2) := by decide +kernel
theorem dMO_countAlike_174 : decode cMO_countAlike 174 = .ok (.iinc 6 1, 3) := by decide +kernel
theorem dMO_countAlike_177 : decode cMO_countAlike 177 = .ok (.goto (-36), 3) := by decide +kernel
theorem dMO_countAlike_180 : decode cMO_countAlike 180 = .ok (.aload_n 0, 1) := by decide +kernel
theorem dMO_countAlike_181 : decode cMO_countAlike 181 = .ok (.getfield 37, 3) := by decide +kernel
theorem dMO_countAlike_184 : decode cMO_countAlike 184 = .ok (.sipush 192, 3) := by decide +kernel
theorem dMO_countAlike_187 : decode cMO_countAlike 187 = .ok (.iload_n 1, 1) := by decide +kernel
theorem dMO_countAlike_188 : decode cMO_countAlike 188 = .ok (.imul, 1) := by decide +kernel
theorem dMO_countAlike_189 : decode cMO_countAlike 189 = .ok (.iload 4, 2) := by decide +kernel
theorem dMO_countAlike_191 : decode cMO_countAlike 191 = .ok (.iadd, 1) := by decide +kernel
theorem dMO_countAlike_192 : decode cMO_countAlike 192 = .ok (.iload 5, 2) := by decide +kernel
theorem dMO_countAlike_194 : decode cMO_countAlike 194 = .ok (.iastore, 1) := by decide +kernel
theorem dMO_countAlike_195 : decode cMO_countAlike 195 = .ok (.iinc 4 1, 3) := by decide +kernel
theorem dMO_countAlike_198 : decode cMO_countAlike 198 = .ok (.goto (-69), 3) := by decide +kernel
theorem dMO_countAlike_201 : decode cMO_countAlike 201 = .ok (.iload_n 3, 1) := by decide +kernel
theorem dMO_countAlike_202 : decode cMO_countAlike 202 = .ok (.ireturn, 1) := by decide +kernel
theorem dMO_gatherHalves_0 : decode cMO_gatherHalves 0 = .ok (.aload_n 0, 1) := by decide +kernel
theorem dMO_gatherHalves_1 : decode cMO_gatherHalves 1 = .ok (.iload_n 1, 1) := by decide +kernel
theorem dMO_gatherHalves_2 : decode cMO_gatherHalves 2 = .ok (.invokestatic 98, 3) := by decide +kernel
theorem dMO_gatherHalves_5 : decode cMO_gatherHalves 5 = .ok (.invokevirtual 119, 3) := by decide +kernel
theorem dMO_gatherHalves_8 : decode cMO_gatherHalves 8 = .ok (.istore_n 3, 1) := by decide +kernel
theorem dMO_gatherHalves_9 : decode cMO_gatherHalves 9 = .ok (.iconst 0, 1) := by decide +kernel
theorem dMO_gatherHalves_10 : decode cMO_gatherHalves 10 = .ok (.istore 4, 2) := by decide +kernel
theorem dMO_gatherHalves_12 : decode cMO_gatherHalves 12 = .ok (.iconst 1, 1) := by decide +kernel
theorem dMO_gatherHalves_13 : decode cMO_gatherHalves 13 = .ok (.istore 5, 2) := by decide +kernel
theorem dMO_gatherHalves_15 : decode cMO_gatherHalves 15 = .ok (.iconst 0, 1) := by decide +kernel
theorem dMO_gatherHalves_16 : decode cMO_gatherHalves 16 = .ok (.istore 6, 2) := by decide +kernel
theorem dMO_gatherHalves_18 : decode cMO_gatherHalves 18 = .ok (.iload 6, 2) := by decide +kernel
theorem dMO_gatherHalves_20 : decode cMO_gatherHalves 20 = .ok (.iload_n 2, 1) := by decide +kernel
theorem dMO_gatherHalves_21 : decode cMO_gatherHalves 21 = .ok (.if_icmp .ge 75, 3) := by decide +kernel
theorem dMO_gatherHalves_24 : decode cMO_gatherHalves 24 = .ok (.iload 5, 2) := by decide +kernel
theorem dMO_gatherHalves_26 : decode cMO_gatherHalves 26 = .ok (.iload_n 2, 1) := by decide +kernel
theorem dMO_gatherHalves_27 : decode cMO_gatherHalves 27 = .ok (.if_icmp .ge 69, 3) := by decide +kernel
theorem dMO_gatherHalves_30 : decode cMO_gatherHalves 30 = .ok (.iconst 0, 1) := by decide +kernel
theorem dMO_gatherHalves_31 : decode cMO_gatherHalves 31 = .ok (.istore 7, 2) := by decide +kernel
theorem dMO_gatherHalves_33 : decode cMO_gatherHalves 33 = .ok (.iload 7, 2) := by decide +kernel
theorem dMO_gatherHalves_35 : decode cMO_gatherHalves 35 = .ok (.iload_n 2, 1) := by decide +kernel
theorem dMO_gatherHalves_36 : decode cMO_gatherHalves 36 = .ok (.if_icmp .ge 17, 3) := by decide +kernel
theorem dMO_gatherHalves_39 : decode cMO_gatherHalves 39 = .ok (.aload_n 0, 1) := by decide +kernel
theorem dMO_gatherHalves_40 : decode cMO_gatherHalves 40 = .ok (.getfield 55, 3) := by decide +kernel
theorem dMO_gatherHalves_43 : decode cMO_gatherHalves 43 = .ok (.iload 7, 2) := by decide +kernel
theorem dMO_gatherHalves_45 : decode cMO_gatherHalves 45 = .ok (.iconst 0, 1) := by decide +kernel
theorem dMO_gatherHalves_46 : decode cMO_gatherHalves 46 = .ok (.iastore, 1) := by decide +kernel
theorem dMO_gatherHalves_47 : decode cMO_gatherHalves 47 = .ok (.iinc 7 1, 3) := by decide +kernel
theorem dMO_gatherHalves_50 : decode cMO_gatherHalves 50 = .ok (.goto (-17), 3) := by decide +kernel
theorem dMO_gatherHalves_53 : decode cMO_gatherHalves 53 = .ok (.aload_n 0, 1) := by decide +kernel
theorem dMO_gatherHalves_54 : decode cMO_gatherHalves 54 = .ok (.getfield 58, 3) := by decide +kernel
theorem dMO_gatherHalves_57 : decode cMO_gatherHalves 57 = .ok (.iload 4, 2) := by decide +kernel
theorem dMO_gatherHalves_59 : decode cMO_gatherHalves 59 = .ok (.iload 6, 2) := by decide +kernel
theorem dMO_gatherHalves_61 : decode cMO_gatherHalves 61 = .ok (.iastore, 1) := by decide +kernel
theorem dMO_gatherHalves_62 : decode cMO_gatherHalves 62 = .ok (.aload_n 0, 1) := by decide +kernel
theorem dMO_gatherHalves_63 : decode cMO_gatherHalves 63 = .ok (.iload_n 3, 1) := by decide +kernel
theorem dMO_gatherHalves_64 : decode cMO_gatherHalves 64 = .ok (.iload 4, 2) := by decide +kernel
theorem dMO_gatherHalves_66 : decode cMO_gatherHalves 66 = .ok (.iconst 1, 1) := by decide +kernel
theorem dMO_gatherHalves_67 : decode cMO_gatherHalves 67 = .ok (.iadd, 1) := by decide +kernel
theorem dMO_gatherHalves_68 : decode cMO_gatherHalves 68 = .ok (.invokevirtual 133, 3) := by decide +kernel
theorem dMO_gatherHalves_71 : decode cMO_gatherHalves 71 = .ok (.istore 7, 2) := by decide +kernel
theorem dMO_gatherHalves_73 : decode cMO_gatherHalves 73 = .ok (.iload 7, 2) := by decide +kernel
theorem dMO_gatherHalves_75 : decode cMO_gatherHalves 75 = .ok (.iload 5, 2) := by decide +kernel
theorem dMO_gatherHalves_77 : decode cMO_gatherHalves 77 = .ok (.if_icmp .ne 6, 3) := by decide +kernel
theorem dMO_gatherHalves_80 : decode cMO_gatherHalves 80 = .ok (.goto 10, 3) := by decide +kernel
theorem dMO_gatherHalves_83 : decode cMO_gatherHalves 83 = .ok (.iload 7, 2) := by decide +kernel
theorem dMO_gatherHalves_85 : decode cMO_gatherHalves 85 = .ok (.istore 5, 2) := by decide +kernel
theorem dMO_gatherHalves_87 : decode cMO_gatherHalves 87 = .ok (.iinc 4 1, 3) := by decide +kernel
theorem dMO_gatherHalves_90 : decode cMO_gatherHalves 90 = .ok (.iinc 6 1, 3) := by decide +kernel
theorem dMO_gatherHalves_93 : decode cMO_gatherHalves 93 = .ok (.goto (-75), 3) := by decide +kernel
theorem dMO_gatherHalves_96 : decode cMO_gatherHalves 96 = .ok (.aload_n 0, 1) := by decide +kernel
theorem dMO_gatherHalves_97 : decode cMO_gatherHalves 97 = .ok (.getfield 40, 3) := by decide +kernel
theorem dMO_gatherHalves_100 : decode cMO_gatherHalves 100 = .ok (.iload_n 1, 1) := by decide +kernel
theorem dMO_gatherHalves_101 : decode cMO_gatherHalves 101 = .ok (.iconst 0, 1) := by decide +kernel
theorem dMO_gatherHalves_102 : decode cMO_gatherHalves 102 = .ok (.iastore, 1) := by decide +kernel
theorem dMO_gatherHalves_103 : decode cMO_gatherHalves 103 = .ok (.iconst 1, 1) := by decide +kernel
theorem dMO_gatherHalves_104 : decode cMO_gatherHalves 104 = .ok (.istore 6, 2) := by decide +kernel
theorem dMO_gatherHalves_106 : decode cMO_gatherHalves 106 = .ok (.iload 6, 2) := by decide +kernel
theorem dMO_gatherHalves_108 : decode cMO_gatherHalves 108 = .ok (.iconst 1, 1) := by decide +kernel
theorem dMO_gatherHalves_109 : decode cMO_gatherHalves 109 = .ok (.iload 4, 2) := by decide +kernel
theorem dMO_gatherHalves_111 : decode cMO_gatherHalves 111 = .ok (.ishl, 1) := by decide +kernel
theorem dMO_gatherHalves_112 : decode cMO_gatherHalves 112 = .ok (.if_icmp .ge 28, 3) := by decide +kernel
theorem dMO_gatherHalves_115 : decode cMO_gatherHalves 115 = .ok (.aload_n 0, 1) := by decide +kernel
theorem dMO_gatherHalves_116 : decode cMO_gatherHalves 116 = .ok (.iload_n 3, 1) := by decide +kernel
theorem dMO_gatherHalves_117 : decode cMO_gatherHalves 117 = .ok (.iload_n 2, 1) := by decide +kernel
theorem dMO_gatherHalves_118 : decode cMO_gatherHalves 118 = .ok (.iload 4, 2) := by decide +kernel
theorem dMO_gatherHalves_120 : decode cMO_gatherHalves 120 = .ok (.iload 6, 2) := by decide +kernel
theorem dMO_gatherHalves_122 : decode cMO_gatherHalves 122 = .ok (.invokevirtual 136, 3) := by decide +kernel
theorem dMO_gatherHalves_125 : decode cMO_gatherHalves 125 = .ok (.ifCond .eq 9, 3) := by decide +kernel
theorem dMO_gatherHalves_128 : decode cMO_gatherHalves 128 = .ok (.aload_n 0, 1) := by decide +kernel
theorem dMO_gatherHalves_129 : decode cMO_gatherHalves 129 = .ok (.iload_n 1, 1) := by decide +kernel
theorem dMO_gatherHalves_130 : decode cMO_gatherHalves 130 = .ok (.iload_n 2, 1) := by decide +kernel
theorem dMO_gatherHalves_131 : decode cMO_gatherHalves 131 = .ok (.invokevirtual 140, 3) := by decide +kernel
theorem dMO_gatherHalves_134 : decode cMO_gatherHalves 134 = .ok (.iinc 6 1, 3) := by decide +kernel
theorem dMO_gatherHalves_137 : decode cMO_gatherHalves 137 = .ok (.goto (-31), 3) := by decide +kernel
theorem dMO_gatherHalves_140 : decode cMO_gatherHalves 140 = .ok (.return_, 1) := by decide +kernel
theorem dMO_made_0 : decode cMO_made 0 = .ok (.iconst 1, 1) := by decide +kernel
theorem dMO_made_1 : decode cMO_made 1 = .ok (.istore_n 3, 1) := by decide +kernel
theorem dMO_made_2 : decode cMO_made 2 = .ok (.aload_n 0, 1) := by decide +kernel
theorem dMO_made_3 : decode cMO_made 3 = .ok (.getfield 61, 3) := by decide +kernel
theorem dMO_made_6 : decode cMO_made 6 = .ok (.iconst 0, 1) := by decide +kernel
theorem dMO_made_7 : decode cMO_made 7 = .ok (.iload_n 1, 1) := by decide +kernel
theorem dMO_made_8 : decode cMO_made 8 = .ok (.iastore, 1) := by decide +kernel
theorem dMO_made_9 : decode cMO_made 9 = .ok (.aload_n 0, 1) := by decide +kernel
theorem dMO_made_10 : decode cMO_made 10 = .ok (.getfield 55, 3) := by decide +kernel
theorem dMO_made_13 : decode cMO_made 13 = .ok (.iload_n 1, 1) := by decide +kernel
theorem dMO_made_14 : decode cMO_made 14 = .ok (.iconst 1, 1) := by decide +kernel
theorem dMO_made_15 : decode cMO_made 15 = .ok (.iastore, 1) := by decide +kernel
theorem dMO_made_16 : decode cMO_made 16 = .ok (.iconst 0, 1) := by decide +kernel
theorem dMO_made_17 : decode cMO_made 17 = .ok (.istore 4, 2) := by decide +kernel
theorem dMO_made_19 : decode cMO_made 19 = .ok (.iload 4, 2) := by decide +kernel
theorem dMO_made_21 : decode cMO_made 21 = .ok (.iload_n 3, 1) := by decide +kernel
theorem dMO_made_22 : decode cMO_made 22 = .ok (.if_icmp .ge 82, 3) := by decide +kernel
theorem dMO_made_25 : decode cMO_made 25 = .ok (.iconst 0, 1) := by decide +kernel
theorem dMO_made_26 : decode cMO_made 26 = .ok (.istore 5, 2) := by decide +kernel
theorem dMO_made_28 : decode cMO_made 28 = .ok (.iload 5, 2) := by decide +kernel
theorem dMO_made_30 : decode cMO_made 30 = .ok (.iload_n 2, 1) := by decide +kernel
theorem dMO_made_31 : decode cMO_made 31 = .ok (.if_icmp .ge 67, 3) := by decide +kernel
theorem dMO_made_34 : decode cMO_made 34 = .ok (.aload_n 0, 1) := by decide +kernel
theorem dMO_made_35 : decode cMO_made 35 = .ok (.getfield 52, 3) := by decide +kernel
theorem dMO_made_38 : decode cMO_made 38 = .ok (.sipush 192, 3) := by decide +kernel
theorem dMO_made_41 : decode cMO_made 41 = .ok (.aload_n 0, 1) := by decide +kernel
theorem dMO_made_42 : decode cMO_made 42 = .ok (.getfield 61, 3) := by decide +kernel
theorem dMO_made_45 : decode cMO_made 45 = .ok (.iload 4, 2) := by decide +kernel
theorem dMO_made_47 : decode cMO_made 47 = .ok (.iaload, 1) := by decide +kernel
theorem dMO_made_48 : decode cMO_made 48 = .ok (.imul, 1) := by decide +kernel
theorem dMO_made_49 : decode cMO_made 49 = .ok (.aload_n 0, 1) := by decide +kernel
theorem dMO_made_50 : decode cMO_made 50 = .ok (.getfield 58, 3) := by decide +kernel
theorem dMO_made_53 : decode cMO_made 53 = .ok (.iload 5, 2) := by decide +kernel
theorem dMO_made_55 : decode cMO_made 55 = .ok (.iaload, 1) := by decide +kernel
theorem dMO_made_56 : decode cMO_made 56 = .ok (.iadd, 1) := by decide +kernel
theorem dMO_made_57 : decode cMO_made 57 = .ok (.iaload, 1) := by decide +kernel
theorem dMO_made_58 : decode cMO_made 58 = .ok (.istore 6, 2) := by decide +kernel
theorem dMO_made_60 : decode cMO_made 60 = .ok (.aload_n 0, 1) := by decide +kernel
theorem dMO_made_61 : decode cMO_made 61 = .ok (.getfield 55, 3) := by decide +kernel
theorem dMO_made_64 : decode cMO_made 64 = .ok (.iload 6, 2) := by decide +kernel
theorem dMO_made_66 : decode cMO_made 66 = .ok (.iaload, 1) := by decide +kernel
theorem dMO_made_67 : decode cMO_made 67 = .ok (.ifCond .eq 6, 3) := by decide +kernel
theorem dMO_made_70 : decode cMO_made 70 = .ok (.goto 22, 3) := by decide +kernel
theorem dMO_made_73 : decode cMO_made 73 = .ok (.aload_n 0, 1) := by decide +kernel
theorem dMO_made_74 : decode cMO_made 74 = .ok (.getfield 55, 3) := by decide +kernel
theorem dMO_made_77 : decode cMO_made 77 = .ok (.iload 6, 2) := by decide +kernel
theorem dMO_made_79 : decode cMO_made 79 = .ok (.iconst 1, 1) := by decide +kernel
theorem dMO_made_80 : decode cMO_made 80 = .ok (.iastore, 1) := by decide +kernel
theorem dMO_made_81 : decode cMO_made 81 = .ok (.aload_n 0, 1) := by decide +kernel
theorem dMO_made_82 : decode cMO_made 82 = .ok (.getfield 61, 3) := by decide +kernel
theorem dMO_made_85 : decode cMO_made 85 = .ok (.iload_n 3, 1) := by decide +kernel
theorem dMO_made_86 : decode cMO_made 86 = .ok (.iload 6, 2) := by decide +kernel
theorem dMO_made_88 : decode cMO_made 88 = .ok (.iastore, 1) := by decide +kernel
theorem dMO_made_89 : decode cMO_made 89 = .ok (.iinc 3 1, 3) := by decide +kernel
theorem dMO_made_92 : decode cMO_made 92 = .ok (.iinc 5 1, 3) := by decide +kernel
theorem dMO_made_95 : decode cMO_made 95 = .ok (.goto (-67), 3) := by decide +kernel
theorem dMO_made_98 : decode cMO_made 98 = .ok (.iinc 4 1, 3) := by decide +kernel
theorem dMO_made_101 : decode cMO_made 101 = .ok (.goto (-82), 3) := by decide +kernel
theorem dMO_made_104 : decode cMO_made 104 = .ok (.iload_n 3, 1) := by decide +kernel
theorem dMO_made_105 : decode cMO_made 105 = .ok (.ireturn, 1) := by decide +kernel
theorem dMO_isHalf_0 : decode cMO_isHalf 0 = .ok (.iconst 0, 1) := by decide +kernel
theorem dMO_isHalf_1 : decode cMO_isHalf 1 = .ok (.istore 5, 2) := by decide +kernel
theorem dMO_isHalf_3 : decode cMO_isHalf 3 = .ok (.iload 5, 2) := by decide +kernel
theorem dMO_isHalf_5 : decode cMO_isHalf 5 = .ok (.iload_n 2, 1) := by decide +kernel
theorem dMO_isHalf_6 : decode cMO_isHalf 6 = .ok (.if_icmp .ge 17, 3) := by decide +kernel
theorem dMO_isHalf_9 : decode cMO_isHalf 9 = .ok (.aload_n 0, 1) := by decide +kernel
theorem dMO_isHalf_10 : decode cMO_isHalf 10 = .ok (.getfield 55, 3) := by decide +kernel
theorem dMO_isHalf_13 : decode cMO_isHalf 13 = .ok (.iload 5, 2) := by decide +kernel
theorem dMO_isHalf_15 : decode cMO_isHalf 15 = .ok (.iconst 0, 1) := by decide +kernel
theorem dMO_isHalf_16 : decode cMO_isHalf 16 = .ok (.iastore, 1) := by decide +kernel
theorem dMO_isHalf_17 : decode cMO_isHalf 17 = .ok (.iinc 5 1, 3) := by decide +kernel
theorem dMO_isHalf_20 : decode cMO_isHalf 20 = .ok (.goto (-17), 3) := by decide +kernel
theorem dMO_isHalf_23 : decode cMO_isHalf 23 = .ok (.aload_n 0, 1) := by decide +kernel
theorem dMO_isHalf_24 : decode cMO_isHalf 24 = .ok (.getfield 55, 3) := by decide +kernel
theorem dMO_isHalf_27 : decode cMO_isHalf 27 = .ok (.iload_n 1, 1) := by decide +kernel
theorem dMO_isHalf_28 : decode cMO_isHalf 28 = .ok (.iconst 1, 1) := by decide +kernel
theorem dMO_isHalf_29 : decode cMO_isHalf 29 = .ok (.iastore, 1) := by decide +kernel
theorem dMO_isHalf_30 : decode cMO_isHalf 30 = .ok (.aload_n 0, 1) := by decide +kernel
theorem dMO_isHalf_31 : decode cMO_isHalf 31 = .ok (.getfield 61, 3) := by decide +kernel
theorem dMO_isHalf_34 : decode cMO_isHalf 34 = .ok (.iconst 0, 1) := by decide +kernel
theorem dMO_isHalf_35 : decode cMO_isHalf 35 = .ok (.iload_n 1, 1) := by decide +kernel
theorem dMO_isHalf_36 : decode cMO_isHalf 36 = .ok (.iastore, 1) := by decide +kernel
theorem dMO_isHalf_37 : decode cMO_isHalf 37 = .ok (.iconst 1, 1) := by decide +kernel
theorem dMO_isHalf_38 : decode cMO_isHalf 38 = .ok (.istore 5, 2) := by decide +kernel
theorem dMO_isHalf_40 : decode cMO_isHalf 40 = .ok (.iconst 0, 1) := by decide +kernel
theorem dMO_isHalf_41 : decode cMO_isHalf 41 = .ok (.istore 6, 2) := by decide +kernel
theorem dMO_isHalf_43 : decode cMO_isHalf 43 = .ok (.iload 6, 2) := by decide +kernel
theorem dMO_isHalf_45 : decode cMO_isHalf 45 = .ok (.iload 5, 2) := by decide +kernel
theorem dMO_isHalf_47 : decode cMO_isHalf 47 = .ok (.if_icmp .ge 139, 3) := by decide +kernel
theorem dMO_isHalf_50 : decode cMO_isHalf 50 = .ok (.iconst 0, 1) := by decide +kernel
theorem dMO_isHalf_51 : decode cMO_isHalf 51 = .ok (.istore 7, 2) := by decide +kernel
theorem dMO_isHalf_53 : decode cMO_isHalf 53 = .ok (.iload 7, 2) := by decide +kernel
theorem dMO_isHalf_55 : decode cMO_isHalf 55 = .ok (.iload_n 3, 1) := by decide +kernel
theorem dMO_isHalf_56 : decode cMO_isHalf 56 = .ok (.if_icmp .ge 124, 3) := by decide +kernel
theorem dMO_isHalf_59 : decode cMO_isHalf 59 = .ok (.aload_n 0, 1) := by decide +kernel
theorem dMO_isHalf_60 : decode cMO_isHalf 60 = .ok (.getfield 52, 3) := by decide +kernel
theorem dMO_isHalf_63 : decode cMO_isHalf 63 = .ok (.sipush 192, 3) := by decide +kernel
theorem dMO_isHalf_66 : decode cMO_isHalf 66 = .ok (.aload_n 0, 1) := by decide +kernel
theorem dMO_isHalf_67 : decode cMO_isHalf 67 = .ok (.getfield 61, 3) := by decide +kernel
theorem dMO_isHalf_70 : decode cMO_isHalf 70 = .ok (.iload 6, 2) := by decide +kernel
theorem dMO_isHalf_72 : decode cMO_isHalf 72 = .ok (.iaload, 1) := by decide +kernel
theorem dMO_isHalf_73 : decode cMO_isHalf 73 = .ok (.imul, 1) := by decide +kernel
theorem dMO_isHalf_74 : decode cMO_isHalf 74 = .ok (.aload_n 0, 1) := by decide +kernel
theorem dMO_isHalf_75 : decode cMO_isHalf 75 = .ok (.getfield 58, 3) := by decide +kernel
theorem dMO_isHalf_78 : decode cMO_isHalf 78 = .ok (.iload 7, 2) := by decide +kernel
theorem dMO_isHalf_80 : decode cMO_isHalf 80 = .ok (.iaload, 1) := by decide +kernel
theorem dMO_isHalf_81 : decode cMO_isHalf 81 = .ok (.iadd, 1) := by decide +kernel
theorem dMO_isHalf_82 : decode cMO_isHalf 82 = .ok (.iaload, 1) := by decide +kernel
theorem dMO_isHalf_83 : decode cMO_isHalf 83 = .ok (.istore 8, 2) := by decide +kernel
theorem dMO_isHalf_85 : decode cMO_isHalf 85 = .ok (.iload 4, 2) := by decide +kernel
theorem dMO_isHalf_87 : decode cMO_isHalf 87 = .ok (.iload 7, 2) := by decide +kernel
theorem dMO_isHalf_89 : decode cMO_isHalf 89 = .ok (.ishr, 1) := by decide +kernel
theorem dMO_isHalf_90 : decode cMO_isHalf 90 = .ok (.iconst 1, 1) := by decide +kernel
theorem dMO_isHalf_91 : decode cMO_isHalf 91 = .ok (.iand, 1) := by decide +kernel
theorem dMO_isHalf_92 : decode cMO_isHalf 92 = .ok (.ifCond .ne 18, 3) := by decide +kernel
theorem dMO_isHalf_95 : decode cMO_isHalf 95 = .ok (.aload_n 0, 1) := by decide +kernel
theorem dMO_isHalf_96 : decode cMO_isHalf 96 = .ok (.getfield 55, 3) := by decide +kernel
theorem dMO_isHalf_99 : decode cMO_isHalf 99 = .ok (.aload_n 0, 1) := by decide +kernel
theorem dMO_isHalf_100 : decode cMO_isHalf 100 = .ok (.getfield 61, 3) := by decide +kernel
theorem dMO_isHalf_103 : decode cMO_isHalf 103 = .ok (.iload 6, 2) := by decide +kernel
theorem dMO_isHalf_105 : decode cMO_isHalf 105 = .ok (.iaload, 1) := by decide +kernel
theorem dMO_isHalf_106 : decode cMO_isHalf 106 = .ok (.iaload, 1) := by decide +kernel
theorem dMO_isHalf_107 : decode cMO_isHalf 107 = .ok (.goto 17, 3) := by decide +kernel
theorem dMO_isHalf_110 : decode cMO_isHalf 110 = .ok (.iconst 3, 1) := by decide +kernel
theorem dMO_isHalf_111 : decode cMO_isHalf 111 = .ok (.aload_n 0, 1) := by decide +kernel
theorem dMO_isHalf_112 : decode cMO_isHalf 112 = .ok (.getfield 55, 3) := by decide +kernel
theorem dMO_isHalf_115 : decode cMO_isHalf 115 = .ok (.aload_n 0, 1) := by decide +kernel
theorem dMO_isHalf_116 : decode cMO_isHalf 116 = .ok (.getfield 61, 3) := by decide +kernel
theorem dMO_isHalf_119 : decode cMO_isHalf 119 = .ok (.iload 6, 2) := by decide +kernel
theorem dMO_isHalf_121 : decode cMO_isHalf 121 = .ok (.iaload, 1) := by decide +kernel
theorem dMO_isHalf_122 : decode cMO_isHalf 122 = .ok (.iaload, 1) := by decide +kernel
theorem dMO_isHalf_123 : decode cMO_isHalf 123 = .ok (.isub, 1) := by decide +kernel
theorem dMO_isHalf_124 : decode cMO_isHalf 124 = .ok (.istore 9, 2) := by decide +kernel
theorem dMO_isHalf_126 : decode cMO_isHalf 126 = .ok (.aload_n 0, 1) := by decide +kernel
theorem dMO_isHalf_127 : decode cMO_isHalf 127 = .ok (.getfield 55, 3) := by decide +kernel
theorem dMO_isHalf_130 : decode cMO_isHalf 130 = .ok (.iload 8, 2) := by decide +kernel
theorem dMO_isHalf_132 : decode cMO_isHalf 132 = .ok (.iaload, 1) := by decide +kernel
theorem dMO_isHalf_133 : decode cMO_isHalf 133 = .ok (.ifCond .ne 27, 3) := by decide +kernel
theorem dMO_isHalf_136 : decode cMO_isHalf 136 = .ok (.aload_n 0, 1) := by decide +kernel
theorem dMO_isHalf_137 : decode cMO_isHalf 137 = .ok (.getfield 55, 3) := by decide +kernel
theorem dMO_isHalf_140 : decode cMO_isHalf 140 = .ok (.iload 8, 2) := by decide +kernel
theorem dMO_isHalf_142 : decode cMO_isHalf 142 = .ok (.iload 9, 2) := by decide +kernel
theorem dMO_isHalf_144 : decode cMO_isHalf 144 = .ok (.iastore, 1) := by decide +kernel
theorem dMO_isHalf_145 : decode cMO_isHalf 145 = .ok (.aload_n 0, 1) := by decide +kernel
theorem dMO_isHalf_146 : decode cMO_isHalf 146 = .ok (.getfield 61, 3) := by decide +kernel
theorem dMO_isHalf_149 : decode cMO_isHalf 149 = .ok (.iload 5, 2) := by decide +kernel
theorem dMO_isHalf_151 : decode cMO_isHalf 151 = .ok (.iload 8, 2) := by decide +kernel
theorem dMO_isHalf_153 : decode cMO_isHalf 153 = .ok (.iastore, 1) := by decide +kernel
theorem dMO_isHalf_154 : decode cMO_isHalf 154 = .ok (.iinc 5 1, 3) := by decide +kernel
theorem dMO_isHalf_157 : decode cMO_isHalf 157 = .ok (.goto 17, 3) := by decide +kernel
theorem dMO_isHalf_160 : decode cMO_isHalf 160 = .ok (.aload_n 0, 1) := by decide +kernel
theorem dMO_isHalf_161 : decode cMO_isHalf 161 = .ok (.getfield 55, 3) := by decide +kernel
theorem dMO_isHalf_164 : decode cMO_isHalf 164 = .ok (.iload 8, 2) := by decide +kernel
theorem dMO_isHalf_166 : decode cMO_isHalf 166 = .ok (.iaload, 1) := by decide +kernel
theorem dMO_isHalf_167 : decode cMO_isHalf 167 = .ok (.iload 9, 2) := by decide +kernel
theorem dMO_isHalf_169 : decode cMO_isHalf 169 = .ok (.if_icmp .eq 5, 3) := by decide +kernel
theorem dMO_isHalf_172 : decode cMO_isHalf 172 = .ok (.iconst 0, 1) := by decide +kernel
theorem dMO_isHalf_173 : decode cMO_isHalf 173 = .ok (.ireturn, 1) := by decide +kernel
theorem dMO_isHalf_174 : decode cMO_isHalf 174 = .ok (.iinc 7 1, 3) := by decide +kernel
theorem dMO_isHalf_177 : decode cMO_isHalf 177 = .ok (.goto (-124), 3) := by decide +kernel
theorem dMO_isHalf_180 : decode cMO_isHalf 180 = .ok (.iinc 6 1, 3) := by decide +kernel
theorem dMO_isHalf_183 : decode cMO_isHalf 183 = .ok (.goto (-140), 3) := by decide +kernel
theorem dMO_isHalf_186 : decode cMO_isHalf 186 = .ok (.iconst 1, 1) := by decide +kernel
theorem dMO_isHalf_187 : decode cMO_isHalf 187 = .ok (.ireturn, 1) := by decide +kernel
theorem dMO_keepHalf_0 : decode cMO_keepHalf 0 = .ok (.lconst 0, 1) := by decide +kernel
theorem dMO_keepHalf_1 : decode cMO_keepHalf 1 = .ok (.lstore_n 3, 1) := by decide +kernel
theorem dMO_keepHalf_2 : decode cMO_keepHalf 2 = .ok (.lconst 0, 1) := by decide +kernel
theorem dMO_keepHalf_3 : decode cMO_keepHalf 3 = .ok (.lstore 5, 2) := by decide +kernel
theorem dMO_keepHalf_5 : decode cMO_keepHalf 5 = .ok (.lconst 0, 1) := by decide +kernel
theorem dMO_keepHalf_6 : decode cMO_keepHalf 6 = .ok (.lstore 7, 2) := by decide +kernel
theorem dMO_keepHalf_8 : decode cMO_keepHalf 8 = .ok (.iconst 0, 1) := by decide +kernel
theorem dMO_keepHalf_9 : decode cMO_keepHalf 9 = .ok (.istore 9, 2) := by decide +kernel
theorem dMO_keepHalf_11 : decode cMO_keepHalf 11 = .ok (.iload 9, 2) := by decide +kernel
theorem dMO_keepHalf_13 : decode cMO_keepHalf 13 = .ok (.iload_n 2, 1) := by decide +kernel
theorem dMO_keepHalf_14 : decode cMO_keepHalf 14 = .ok (.if_icmp .ge 79, 3) := by decide +kernel
theorem dMO_keepHalf_17 : decode cMO_keepHalf 17 = .ok (.aload_n 0, 1) := by decide +kernel
theorem dMO_keepHalf_18 : decode cMO_keepHalf 18 = .ok (.getfield 55, 3) := by decide +kernel
theorem dMO_keepHalf_21 : decode cMO_keepHalf 21 = .ok (.iload 9, 2) := by decide +kernel
theorem dMO_keepHalf_23 : decode cMO_keepHalf 23 = .ok (.iaload, 1) := by decide +kernel
theorem dMO_keepHalf_24 : decode cMO_keepHalf 24 = .ok (.iconst 1, 1) := by decide +kernel
theorem dMO_keepHalf_25 : decode cMO_keepHalf 25 = .ok (.if_icmp .eq 6, 3) := by decide +kernel
theorem dMO_keepHalf_28 : decode cMO_keepHalf 28 = .ok (.goto 59, 3) := by decide +kernel
theorem dMO_keepHalf_31 : decode cMO_keepHalf 31 = .ok (.iload 9, 2) := by decide +kernel
theorem dMO_keepHalf_33 : decode cMO_keepHalf 33 = .ok (.bipush 64, 2) := by decide +kernel
theorem dMO_keepHalf_35 : decode cMO_keepHalf 35 = .ok (.if_icmp .ge 16, 3) := by decide +kernel
theorem dMO_keepHalf_38 : decode cMO_keepHalf 38 = .ok (.lload_n 3, 1) := by decide +kernel
theorem dMO_keepHalf_39 : decode cMO_keepHalf 39 = .ok (.lconst 1, 1) := by decide +kernel
theorem dMO_keepHalf_40 : decode cMO_keepHalf 40 = .ok (.bipush 63, 2) := by decide +kernel
theorem dMO_keepHalf_42 : decode cMO_keepHalf 42 = .ok (.iload 9, 2) := by decide +kernel
theorem dMO_keepHalf_44 : decode cMO_keepHalf 44 = .ok (.isub, 1) := by decide +kernel
theorem dMO_keepHalf_45 : decode cMO_keepHalf 45 = .ok (.lshl, 1) := by decide +kernel
theorem dMO_keepHalf_46 : decode cMO_keepHalf 46 = .ok (.lor, 1) := by decide +kernel
theorem dMO_keepHalf_47 : decode cMO_keepHalf 47 = .ok (.lstore_n 3, 1) := by decide +kernel
theorem dMO_keepHalf_48 : decode cMO_keepHalf 48 = .ok (.goto 39, 3) := by decide +kernel
theorem dMO_keepHalf_51 : decode cMO_keepHalf 51 = .ok (.iload 9, 2) := by decide +kernel
theorem dMO_keepHalf_53 : decode cMO_keepHalf 53 = .ok (.sipush 128, 3) := by decide +kernel
theorem dMO_keepHalf_56 : decode cMO_keepHalf 56 = .ok (.if_icmp .ge 18, 3) := by decide +kernel
theorem dMO_keepHalf_59 : decode cMO_keepHalf 59 = .ok (.lload 5, 2) := by decide +kernel
theorem dMO_keepHalf_61 : decode cMO_keepHalf 61 = .ok (.lconst 1, 1) := by decide +kernel
theorem dMO_keepHalf_62 : decode cMO_keepHalf 62 = .ok (.bipush 127, 2) := by decide +kernel
theorem dMO_keepHalf_64 : decode cMO_keepHalf 64 = .ok (.iload 9, 2) := by decide +kernel
theorem dMO_keepHalf_66 : decode cMO_keepHalf 66 = .ok (.isub, 1) := by decide +kernel
theorem dMO_keepHalf_67 : decode cMO_keepHalf 67 = .ok (.lshl, 1) := by decide +kernel
theorem dMO_keepHalf_68 : decode cMO_keepHalf 68 = .ok (.lor, 1) := by decide +kernel
theorem dMO_keepHalf_69 : decode cMO_keepHalf 69 = .ok (.lstore 5, 2) := by decide +kernel
theorem dMO_keepHalf_71 : decode cMO_keepHalf 71 = .ok (.goto 16, 3) := by decide +kernel
theorem dMO_keepHalf_74 : decode cMO_keepHalf 74 = .ok (.lload 7, 2) := by decide +kernel
theorem dMO_keepHalf_76 : decode cMO_keepHalf 76 = .ok (.lconst 1, 1) := by decide +kernel
theorem dMO_keepHalf_77 : decode cMO_keepHalf 77 = .ok (.sipush 191, 3) := by decide +kernel
theorem dMO_keepHalf_80 : decode cMO_keepHalf 80 = .ok (.iload 9, 2) := by decide +kernel
theorem dMO_keepHalf_82 : decode cMO_keepHalf 82 = .ok (.isub, 1) := by decide +kernel
theorem dMO_keepHalf_83 : decode cMO_keepHalf 83 = .ok (.lshl, 1) := by decide +kernel
theorem dMO_keepHalf_84 : decode cMO_keepHalf 84 = .ok (.lor, 1) := by decide +kernel
theorem dMO_keepHalf_85 : decode cMO_keepHalf 85 = .ok (.lstore 7, 2) := by decide +kernel
theorem dMO_keepHalf_87 : decode cMO_keepHalf 87 = .ok (.iinc 9 1, 3) := by decide +kernel
theorem dMO_keepHalf_90 : decode cMO_keepHalf 90 = .ok (.goto (-79), 3) := by decide +kernel
theorem dMO_keepHalf_93 : decode cMO_keepHalf 93 = .ok (.aload_n 0, 1) := by decide +kernel
theorem dMO_keepHalf_94 : decode cMO_keepHalf 94 = .ok (.getfield 40, 3) := by decide +kernel
theorem dMO_keepHalf_97 : decode cMO_keepHalf 97 = .ok (.iload_n 1, 1) := by decide +kernel
theorem dMO_keepHalf_98 : decode cMO_keepHalf 98 = .ok (.iaload, 1) := by decide +kernel
theorem dMO_keepHalf_99 : decode cMO_keepHalf 99 = .ok (.istore 9, 2) := by decide +kernel
theorem dMO_keepHalf_101 : decode cMO_keepHalf 101 = .ok (.sipush 384, 3) := by decide +kernel
theorem dMO_keepHalf_104 : decode cMO_keepHalf 104 = .ok (.iload_n 1, 1) := by decide +kernel
theorem dMO_keepHalf_105 : decode cMO_keepHalf 105 = .ok (.imul, 1) := by decide +kernel
theorem dMO_keepHalf_106 : decode cMO_keepHalf 106 = .ok (.istore 10, 2) := by decide +kernel
theorem dMO_keepHalf_108 : decode cMO_keepHalf 108 = .ok (.iload 9, 2) := by decide +kernel
theorem dMO_keepHalf_110 : decode cMO_keepHalf 110 = .ok (.ifCond .le 77, 3) := by decide +kernel
theorem dMO_keepHalf_113 : decode cMO_keepHalf 113 = .ok (.aload_n 0, 1) := by decide +kernel
theorem dMO_keepHalf_114 : decode cMO_keepHalf 114 = .ok (.lload_n 3, 1) := by decide +kernel
theorem dMO_keepHalf_115 : decode cMO_keepHalf 115 = .ok (.lload 5, 2) := by decide +kernel
theorem dMO_keepHalf_117 : decode cMO_keepHalf 117 = .ok (.lload 7, 2) := by decide +kernel
theorem dMO_keepHalf_119 : decode cMO_keepHalf 119 = .ok (.iload 10, 2) := by decide +kernel
theorem dMO_keepHalf_121 : decode cMO_keepHalf 121 = .ok (.iconst 3, 1) := by decide +kernel
theorem dMO_keepHalf_122 : decode cMO_keepHalf 122 = .ok (.iload 9, 2) := by decide +kernel
theorem dMO_keepHalf_124 : decode cMO_keepHalf 124 = .ok (.iconst 1, 1) := by decide +kernel
theorem dMO_keepHalf_125 : decode cMO_keepHalf 125 = .ok (.isub, 1) := by decide +kernel
theorem dMO_keepHalf_126 : decode cMO_keepHalf 126 = .ok (.imul, 1) := by decide +kernel
theorem dMO_keepHalf_127 : decode cMO_keepHalf 127 = .ok (.iadd, 1) := by decide +kernel
theorem dMO_keepHalf_128 : decode cMO_keepHalf 128 = .ok (.invokevirtual 143, 3) := by decide +kernel
theorem dMO_keepHalf_131 : decode cMO_keepHalf 131 = .ok (.ifCond .eq 56, 3) := by decide +kernel
theorem dMO_keepHalf_134 : decode cMO_keepHalf 134 = .ok (.iconst 0, 1) := by decide +kernel
theorem dMO_keepHalf_135 : decode cMO_keepHalf 135 = .ok (.istore 11, 2) := by decide +kernel
theorem dMO_keepHalf_137 : decode cMO_keepHalf 137 = .ok (.iload 11, 2) := by decide +kernel
theorem dMO_keepHalf_139 : decode cMO_keepHalf 139 = .ok (.iconst 3, 1) := by decide +kernel
theorem dMO_keepHalf_140 : decode cMO_keepHalf 140 = .ok (.if_icmp .ge 41, 3) := by decide +kernel
theorem dMO_keepHalf_143 : decode cMO_keepHalf 143 = .ok (.aload_n 0, 1) := by decide +kernel
theorem dMO_keepHalf_144 : decode cMO_keepHalf 144 = .ok (.getfield 47, 3) := by decide +kernel
theorem dMO_keepHalf_147 : decode cMO_keepHalf 147 = .ok (.iload 10, 2) := by decide +kernel
theorem dMO_keepHalf_149 : decode cMO_keepHalf 149 = .ok (.iconst 3, 1) := by decide +kernel
theorem dMO_keepHalf_150 : decode cMO_keepHalf 150 = .ok (.iload 9, 2) := by decide +kernel
theorem dMO_keepHalf_152 : decode cMO_keepHalf 152 = .ok (.imul, 1) := by decide +kernel
theorem dMO_keepHalf_153 : decode cMO_keepHalf 153 = .ok (.iadd, 1) := by decide +kernel
theorem dMO_keepHalf_154 : decode cMO_keepHalf 154 = .ok (.iload 11, 2) := by decide +kernel
theorem dMO_keepHalf_156 : decode cMO_keepHalf 156 = .ok (.iadd, 1) := by decide +kernel
theorem dMO_keepHalf_157 : decode cMO_keepHalf 157 = .ok (.aload_n 0, 1) := by decide +kernel
theorem dMO_keepHalf_158 : decode cMO_keepHalf 158 = .ok (.getfield 47, 3) := by decide +kernel
theorem dMO_keepHalf_161 : decode cMO_keepHalf 161 = .ok (.iload 10, 2) := by decide +kernel
theorem dMO_keepHalf_163 : decode cMO_keepHalf 163 = .ok (.iconst 3, 1) := by decide +kernel
theorem dMO_keepHalf_164 : decode cMO_keepHalf 164 = .ok (.iload 9, 2) := by decide +kernel
theorem dMO_keepHalf_166 : decode cMO_keepHalf 166 = .ok (.iconst 1, 1) := by decide +kernel
theorem dMO_keepHalf_167 : decode cMO_keepHalf 167 = .ok (.isub, 1) := by decide +kernel
theorem dMO_keepHalf_168 : decode cMO_keepHalf 168 = .ok (.imul, 1) := by decide +kernel
theorem dMO_keepHalf_169 : decode cMO_keepHalf 169 = .ok (.iadd, 1) := by decide +kernel
theorem dMO_keepHalf_170 : decode cMO_keepHalf 170 = .ok (.iload 11, 2) := by decide +kernel
theorem dMO_keepHalf_172 : decode cMO_keepHalf 172 = .ok (.iadd, 1) := by decide +kernel
theorem dMO_keepHalf_173 : decode cMO_keepHalf 173 = .ok (.laload, 1) := by decide +kernel
theorem dMO_keepHalf_174 : decode cMO_keepHalf 174 = .ok (.lastore, 1) := by decide +kernel
theorem dMO_keepHalf_175 : decode cMO_keepHalf 175 = .ok (.iinc 11 1, 3) := by decide +kernel
theorem dMO_keepHalf_178 : decode cMO_keepHalf 178 = .ok (.goto (-41), 3) := by decide +kernel
theorem dMO_keepHalf_181 : decode cMO_keepHalf 181 = .ok (.iinc 9 (-1), 3) := by decide +kernel
theorem dMO_keepHalf_184 : decode cMO_keepHalf 184 = .ok (.goto (-76), 3) := by decide +kernel
theorem dMO_keepHalf_187 : decode cMO_keepHalf 187 = .ok (.aload_n 0, 1) := by decide +kernel
theorem dMO_keepHalf_188 : decode cMO_keepHalf 188 = .ok (.getfield 47, 3) := by decide +kernel
theorem dMO_keepHalf_191 : decode cMO_keepHalf 191 = .ok (.iload 10, 2) := by decide +kernel
theorem dMO_keepHalf_193 : decode cMO_keepHalf 193 = .ok (.iconst 3, 1) := by decide +kernel
theorem dMO_keepHalf_194 : decode cMO_keepHalf 194 = .ok (.iload 9, 2) := by decide +kernel
theorem dMO_keepHalf_196 : decode cMO_keepHalf 196 = .ok (.imul, 1) := by decide +kernel
theorem dMO_keepHalf_197 : decode cMO_keepHalf 197 = .ok (.iadd, 1) := by decide +kernel
theorem dMO_keepHalf_198 : decode cMO_keepHalf 198 = .ok (.lload_n 3, 1) := by decide +kernel
theorem dMO_keepHalf_199 : decode cMO_keepHalf 199 = .ok (.lastore, 1) := by decide +kernel
theorem dMO_keepHalf_200 : decode cMO_keepHalf 200 = .ok (.aload_n 0, 1) := by decide +kernel
theorem dMO_keepHalf_201 : decode cMO_keepHalf 201 = .ok (.getfield 47, 3) := by decide +kernel
theorem dMO_keepHalf_204 : decode cMO_keepHalf 204 = .ok (.iload 10, 2) := by decide +kernel
theorem dMO_keepHalf_206 : decode cMO_keepHalf 206 = .ok (.iconst 3, 1) := by decide +kernel
theorem dMO_keepHalf_207 : decode cMO_keepHalf 207 = .ok (.iload 9, 2) := by decide +kernel
theorem dMO_keepHalf_209 : decode cMO_keepHalf 209 = .ok (.imul, 1) := by decide +kernel
theorem dMO_keepHalf_210 : decode cMO_keepHalf 210 = .ok (.iadd, 1) := by decide +kernel
theorem dMO_keepHalf_211 : decode cMO_keepHalf 211 = .ok (.iconst 1, 1) := by decide +kernel
theorem dMO_keepHalf_212 : decode cMO_keepHalf 212 = .ok (.iadd, 1) := by decide +kernel
theorem dMO_keepHalf_213 : decode cMO_keepHalf 213 = .ok (.lload 5, 2) := by decide +kernel
theorem dMO_keepHalf_215 : decode cMO_keepHalf 215 = .ok (.lastore, 1) := by decide +kernel
theorem dMO_keepHalf_216 : decode cMO_keepHalf 216 = .ok (.aload_n 0, 1) := by decide +kernel
theorem dMO_keepHalf_217 : decode cMO_keepHalf 217 = .ok (.getfield 47, 3) := by decide +kernel
theorem dMO_keepHalf_220 : decode cMO_keepHalf 220 = .ok (.iload 10, 2) := by decide +kernel
theorem dMO_keepHalf_222 : decode cMO_keepHalf 222 = .ok (.iconst 3, 1) := by decide +kernel
theorem dMO_keepHalf_223 : decode cMO_keepHalf 223 = .ok (.iload 9, 2) := by decide +kernel
theorem dMO_keepHalf_225 : decode cMO_keepHalf 225 = .ok (.imul, 1) := by decide +kernel
theorem dMO_keepHalf_226 : decode cMO_keepHalf 226 = .ok (.iadd, 1) := by decide +kernel
theorem dMO_keepHalf_227 : decode cMO_keepHalf 227 = .ok (.iconst 2, 1) := by decide +kernel
theorem dMO_keepHalf_228 : decode cMO_keepHalf 228 = .ok (.iadd, 1) := by decide +kernel
theorem dMO_keepHalf_229 : decode cMO_keepHalf 229 = .ok (.lload 7, 2) := by decide +kernel
theorem dMO_keepHalf_231 : decode cMO_keepHalf 231 = .ok (.lastore, 1) := by decide +kernel
theorem dMO_keepHalf_232 : decode cMO_keepHalf 232 = .ok (.aload_n 0, 1) := by decide +kernel
theorem dMO_keepHalf_233 : decode cMO_keepHalf 233 = .ok (.getfield 40, 3) := by decide +kernel
theorem dMO_keepHalf_236 : decode cMO_keepHalf 236 = .ok (.iload_n 1, 1) := by decide +kernel
theorem dMO_keepHalf_237 : decode cMO_keepHalf 237 = .ok (.dup2, 1) := by decide +kernel
theorem dMO_keepHalf_238 : decode cMO_keepHalf 238 = .ok (.iaload, 1) := by decide +kernel
theorem dMO_keepHalf_239 : decode cMO_keepHalf 239 = .ok (.iconst 1, 1) := by decide +kernel
theorem dMO_keepHalf_240 : decode cMO_keepHalf 240 = .ok (.iadd, 1) := by decide +kernel
theorem dMO_keepHalf_241 : decode cMO_keepHalf 241 = .ok (.iastore, 1) := by decide +kernel
theorem dMO_keepHalf_242 : decode cMO_keepHalf 242 = .ok (.return_, 1) := by decide +kernel
theorem dMO_comesAhead_0 : decode cMO_comesAhead 0 = .ok (.lload_n 1, 1) := by decide +kernel
theorem dMO_comesAhead_1 : decode cMO_comesAhead 1 = .ok (.aload_n 0, 1) := by decide +kernel
theorem dMO_comesAhead_2 : decode cMO_comesAhead 2 = .ok (.getfield 47, 3) := by decide +kernel
theorem dMO_comesAhead_5 : decode cMO_comesAhead 5 = .ok (.iload 7, 2) := by decide +kernel
theorem dMO_comesAhead_7 : decode cMO_comesAhead 7 = .ok (.laload, 1) := by decide +kernel
theorem dMO_comesAhead_8 : decode cMO_comesAhead 8 = .ok (.lcmp, 1) := by decide +kernel
theorem dMO_comesAhead_9 : decode cMO_comesAhead 9 = .ok (.ifCond .eq 15, 3) := by decide +kernel
theorem dMO_comesAhead_12 : decode cMO_comesAhead 12 = .ok (.lload_n 1, 1) := by decide +kernel
theorem dMO_comesAhead_13 : decode cMO_comesAhead 13 = .ok (.aload_n 0, 1) := by decide +kernel
theorem dMO_comesAhead_14 : decode cMO_comesAhead 14 = .ok (.getfield 47, 3) := by decide +kernel
theorem dMO_comesAhead_17 : decode cMO_comesAhead 17 = .ok (.iload 7, 2) := by decide +kernel
theorem dMO_comesAhead_19 : decode cMO_comesAhead 19 = .ok (.laload, 1) := by decide +kernel
theorem dMO_comesAhead_20 : decode cMO_comesAhead 20 = .ok (.invokestatic 147, 3) := by decide +kernel
theorem dMO_comesAhead_23 : decode cMO_comesAhead 23 = .ok (.ireturn, 1) := by decide +kernel
theorem dMO_comesAhead_24 : decode cMO_comesAhead 24 = .ok (.lload_n 3, 1) := by decide +kernel
theorem dMO_comesAhead_25 : decode cMO_comesAhead 25 = .ok (.aload_n 0, 1) := by decide +kernel
theorem dMO_comesAhead_26 : decode cMO_comesAhead 26 = .ok (.getfield 47, 3) := by decide +kernel
theorem dMO_comesAhead_29 : decode cMO_comesAhead 29 = .ok (.iload 7, 2) := by decide +kernel
theorem dMO_comesAhead_31 : decode cMO_comesAhead 31 = .ok (.iconst 1, 1) := by decide +kernel
theorem dMO_comesAhead_32 : decode cMO_comesAhead 32 = .ok (.iadd, 1) := by decide +kernel
theorem dMO_comesAhead_33 : decode cMO_comesAhead 33 = .ok (.laload, 1) := by decide +kernel
theorem dMO_comesAhead_34 : decode cMO_comesAhead 34 = .ok (.lcmp, 1) := by decide +kernel
theorem dMO_comesAhead_35 : decode cMO_comesAhead 35 = .ok (.ifCond .eq 17, 3) := by decide +kernel
theorem dMO_comesAhead_38 : decode cMO_comesAhead 38 = .ok (.lload_n 3, 1) := by decide +kernel
theorem dMO_comesAhead_39 : decode cMO_comesAhead 39 = .ok (.aload_n 0, 1) := by decide +kernel
theorem dMO_comesAhead_40 : decode cMO_comesAhead 40 = .ok (.getfield 47, 3) := by decide +kernel
theorem dMO_comesAhead_43 : decode cMO_comesAhead 43 = .ok (.iload 7, 2) := by decide +kernel
theorem dMO_comesAhead_45 : decode cMO_comesAhead 45 = .ok (.iconst 1, 1) := by decide +kernel
theorem dMO_comesAhead_46 : decode cMO_comesAhead 46 = .ok (.iadd, 1) := by decide +kernel
theorem dMO_comesAhead_47 : decode cMO_comesAhead 47 = .ok (.laload, 1) := by decide +kernel
theorem dMO_comesAhead_48 : decode cMO_comesAhead 48 = .ok (.invokestatic 147, 3) := by decide +kernel
theorem dMO_comesAhead_51 : decode cMO_comesAhead 51 = .ok (.ireturn, 1) := by decide +kernel
theorem dMO_comesAhead_52 : decode cMO_comesAhead 52 = .ok (.lload 5, 2) := by decide +kernel
theorem dMO_comesAhead_54 : decode cMO_comesAhead 54 = .ok (.aload_n 0, 1) := by decide +kernel
theorem dMO_comesAhead_55 : decode cMO_comesAhead 55 = .ok (.getfield 47, 3) := by decide +kernel
theorem dMO_comesAhead_58 : decode cMO_comesAhead 58 = .ok (.iload 7, 2) := by decide +kernel
theorem dMO_comesAhead_60 : decode cMO_comesAhead 60 = .ok (.iconst 2, 1) := by decide +kernel
theorem dMO_comesAhead_61 : decode cMO_comesAhead 61 = .ok (.iadd, 1) := by decide +kernel
theorem dMO_comesAhead_62 : decode cMO_comesAhead 62 = .ok (.laload, 1) := by decide +kernel
theorem dMO_comesAhead_63 : decode cMO_comesAhead 63 = .ok (.invokestatic 147, 3) := by decide +kernel
theorem dMO_comesAhead_66 : decode cMO_comesAhead 66 = .ok (.ireturn, 1) := by decide +kernel
theorem dMO_isGreater_0 : decode cMO_isGreater 0 = .ok (.lload_n 0, 1) := by decide +kernel
theorem dMO_isGreater_1 : decode cMO_isGreater 1 = .ok (.lconst 0, 1) := by decide +kernel
theorem dMO_isGreater_2 : decode cMO_isGreater 2 = .ok (.lcmp, 1) := by decide +kernel
theorem dMO_isGreater_3 : decode cMO_isGreater 3 = .ok (.ifCond .ge 7, 3) := by decide +kernel
theorem dMO_isGreater_6 : decode cMO_isGreater 6 = .ok (.iconst 1, 1) := by decide +kernel
theorem dMO_isGreater_7 : decode cMO_isGreater 7 = .ok (.goto 4, 3) := by decide +kernel
theorem dMO_isGreater_10 : decode cMO_isGreater 10 = .ok (.iconst 0, 1) := by decide +kernel
theorem dMO_isGreater_11 : decode cMO_isGreater 11 = .ok (.lload_n 2, 1) := by decide +kernel
theorem dMO_isGreater_12 : decode cMO_isGreater 12 = .ok (.lconst 0, 1) := by decide +kernel
theorem dMO_isGreater_13 : decode cMO_isGreater 13 = .ok (.lcmp, 1) := by decide +kernel
theorem dMO_isGreater_14 : decode cMO_isGreater 14 = .ok (.ifCond .ge 7, 3) := by decide +kernel
theorem dMO_isGreater_17 : decode cMO_isGreater 17 = .ok (.iconst 1, 1) := by decide +kernel
theorem dMO_isGreater_18 : decode cMO_isGreater 18 = .ok (.goto 4, 3) := by decide +kernel
theorem dMO_isGreater_21 : decode cMO_isGreater 21 = .ok (.iconst 0, 1) := by decide +kernel
theorem dMO_isGreater_22 : decode cMO_isGreater 22 = .ok (.if_icmp .eq 17, 3) := by decide +kernel
theorem dMO_isGreater_25 : decode cMO_isGreater 25 = .ok (.lload_n 0, 1) := by decide +kernel
theorem dMO_isGreater_26 : decode cMO_isGreater 26 = .ok (.lconst 0, 1) := by decide +kernel
theorem dMO_isGreater_27 : decode cMO_isGreater 27 = .ok (.lcmp, 1) := by decide +kernel
theorem dMO_isGreater_28 : decode cMO_isGreater 28 = .ok (.ifCond .ge 7, 3) := by decide +kernel
theorem dMO_isGreater_31 : decode cMO_isGreater 31 = .ok (.iconst 1, 1) := by decide +kernel
theorem dMO_isGreater_32 : decode cMO_isGreater 32 = .ok (.goto 18, 3) := by decide +kernel
theorem dMO_isGreater_35 : decode cMO_isGreater 35 = .ok (.iconst 0, 1) := by decide +kernel
theorem dMO_isGreater_36 : decode cMO_isGreater 36 = .ok (.goto 14, 3) := by decide +kernel
theorem dMO_isGreater_39 : decode cMO_isGreater 39 = .ok (.lload_n 0, 1) := by decide +kernel
theorem dMO_isGreater_40 : decode cMO_isGreater 40 = .ok (.lload_n 2, 1) := by decide +kernel
theorem dMO_isGreater_41 : decode cMO_isGreater 41 = .ok (.lcmp, 1) := by decide +kernel
theorem dMO_isGreater_42 : decode cMO_isGreater 42 = .ok (.ifCond .le 7, 3) := by decide +kernel
theorem dMO_isGreater_45 : decode cMO_isGreater 45 = .ok (.iconst 1, 1) := by decide +kernel
theorem dMO_isGreater_46 : decode cMO_isGreater 46 = .ok (.goto 4, 3) := by decide +kernel
theorem dMO_isGreater_49 : decode cMO_isGreater 49 = .ok (.iconst 0, 1) := by decide +kernel
theorem dMO_isGreater_50 : decode cMO_isGreater 50 = .ok (.ireturn, 1) := by decide +kernel
theorem dMO_of_0 : decode cMO_of 0 = .ok (.aload_n 0, 1) := by decide +kernel
theorem dMO_of_1 : decode cMO_of 1 = .ok (.iload_n 1, 1) := by decide +kernel
theorem dMO_of_2 : decode cMO_of 2 = .ok (.iload_n 2, 1) := by decide +kernel
theorem dMO_of_3 : decode cMO_of 3 = .ok (.invokevirtual 172, 3) := by decide +kernel
theorem dMO_of_6 : decode cMO_of 6 = .ok (.ifCond .ne 5, 3) := by decide +kernel
theorem dMO_of_9 : decode cMO_of 9 = .ok (.iconst (-1), 1) := by decide +kernel
theorem dMO_of_10 : decode cMO_of 10 = .ok (.ireturn, 1) := by decide +kernel
theorem dMO_of_11 : decode cMO_of 11 = .ok (.aload_n 0, 1) := by decide +kernel
theorem dMO_of_12 : decode cMO_of 12 = .ok (.getfield 25, 3) := by decide +kernel
theorem dMO_of_15 : decode cMO_of 15 = .ok (.sipush 192, 3) := by decide +kernel
theorem dMO_of_18 : decode cMO_of 18 = .ok (.iload_n 1, 1) := by decide +kernel
theorem dMO_of_19 : decode cMO_of 19 = .ok (.imul, 1) := by decide +kernel
theorem dMO_of_20 : decode cMO_of 20 = .ok (.iload_n 2, 1) := by decide +kernel
theorem dMO_of_21 : decode cMO_of 21 = .ok (.iadd, 1) := by decide +kernel
theorem dMO_of_22 : decode cMO_of 22 = .ok (.iaload, 1) := by decide +kernel
theorem dMO_of_23 : decode cMO_of 23 = .ok (.istore 4, 2) := by decide +kernel
theorem dMO_of_25 : decode cMO_of 25 = .ok (.iload_n 3, 1) := by decide +kernel
theorem dMO_of_26 : decode cMO_of 26 = .ok (.tableswitch 121 0 4 #[34, 41, 48, 69, 103], 34) := by decide +kernel
theorem dMO_of_60 : decode cMO_of 60 = .ok (.iload 4, 2) := by decide +kernel
theorem dMO_of_62 : decode cMO_of 62 = .ok (.sipush 13824, 3) := by decide +kernel
theorem dMO_of_65 : decode cMO_of 65 = .ok (.idiv, 1) := by decide +kernel
theorem dMO_of_66 : decode cMO_of 66 = .ok (.ireturn, 1) := by decide +kernel
theorem dMO_of_67 : decode cMO_of 67 = .ok (.iload 4, 2) := by decide +kernel
theorem dMO_of_69 : decode cMO_of 69 = .ok (.sipush 13824, 3) := by decide +kernel
theorem dMO_of_72 : decode cMO_of 72 = .ok (.irem, 1) := by decide +kernel
theorem dMO_of_73 : decode cMO_of 73 = .ok (.ireturn, 1) := by decide +kernel
theorem dMO_of_74 : decode cMO_of 74 = .ok (.iload 4, 2) := by decide +kernel
theorem dMO_of_76 : decode cMO_of 76 = .ok (.aload_n 0, 1) := by decide +kernel
theorem dMO_of_77 : decode cMO_of 77 = .ok (.getfield 7, 3) := by decide +kernel
theorem dMO_of_80 : decode cMO_of 80 = .ok (.aload_n 0, 1) := by decide +kernel
theorem dMO_of_81 : decode cMO_of 81 = .ok (.getfield 13, 3) := by decide +kernel
theorem dMO_of_84 : decode cMO_of 84 = .ok (.invokestatic 76, 3) := by decide +kernel
theorem dMO_of_87 : decode cMO_of 87 = .ok (.aload_n 0, 1) := by decide +kernel
theorem dMO_of_88 : decode cMO_of 88 = .ok (.getfield 7, 3) := by decide +kernel
theorem dMO_of_91 : decode cMO_of 91 = .ok (.invokestatic 113, 3) := by decide +kernel
theorem dMO_of_94 : decode cMO_of 94 = .ok (.ireturn, 1) := by decide +kernel
theorem dMO_of_95 : decode cMO_of 95 = .ok (.iconst 1, 1) := by decide +kernel
theorem dMO_of_96 : decode cMO_of 96 = .ok (.istore 5, 2) := by decide +kernel
theorem dMO_of_98 : decode cMO_of 98 = .ok (.iload 4, 2) := by decide +kernel
theorem dMO_of_100 : decode cMO_of 100 = .ok (.istore 6, 2) := by decide +kernel
theorem dMO_of_102 : decode cMO_of 102 = .ok (.iload 6, 2) := by decide +kernel
theorem dMO_of_104 : decode cMO_of 104 = .ok (.invokestatic 98, 3) := by decide +kernel
theorem dMO_of_107 : decode cMO_of 107 = .ok (.if_icmp .eq 19, 3) := by decide +kernel
theorem dMO_of_110 : decode cMO_of 110 = .ok (.aload_n 0, 1) := by decide +kernel
theorem dMO_of_111 : decode cMO_of 111 = .ok (.iload 6, 2) := by decide +kernel
theorem dMO_of_113 : decode cMO_of 113 = .ok (.iload 4, 2) := by decide +kernel
theorem dMO_of_115 : decode cMO_of 115 = .ok (.invokevirtual 102, 3) := by decide +kernel
theorem dMO_of_118 : decode cMO_of 118 = .ok (.istore 6, 2) := by decide +kernel
theorem dMO_of_120 : decode cMO_of 120 = .ok (.iinc 5 1, 3) := by decide +kernel
theorem dMO_of_123 : decode cMO_of 123 = .ok (.goto (-21), 3) := by decide +kernel
theorem dMO_of_126 : decode cMO_of 126 = .ok (.iload 5, 2) := by decide +kernel
theorem dMO_of_128 : decode cMO_of 128 = .ok (.ireturn, 1) := by decide +kernel
theorem dMO_of_129 : decode cMO_of 129 = .ok (.aload_n 0, 1) := by decide +kernel
theorem dMO_of_130 : decode cMO_of 130 = .ok (.iload_n 1, 1) := by decide +kernel
theorem dMO_of_131 : decode cMO_of 131 = .ok (.invokevirtual 168, 3) := by decide +kernel
theorem dMO_of_134 : decode cMO_of 134 = .ok (.aload_n 0, 1) := by decide +kernel
theorem dMO_of_135 : decode cMO_of 135 = .ok (.getfield 37, 3) := by decide +kernel
theorem dMO_of_138 : decode cMO_of 138 = .ok (.sipush 192, 3) := by decide +kernel
theorem dMO_of_141 : decode cMO_of 141 = .ok (.iload_n 1, 1) := by decide +kernel
theorem dMO_of_142 : decode cMO_of 142 = .ok (.imul, 1) := by decide +kernel
theorem dMO_of_143 : decode cMO_of 143 = .ok (.iload_n 2, 1) := by decide +kernel
theorem dMO_of_144 : decode cMO_of 144 = .ok (.iadd, 1) := by decide +kernel
theorem dMO_of_145 : decode cMO_of 145 = .ok (.iaload, 1) := by decide +kernel
theorem dMO_of_146 : decode cMO_of 146 = .ok (.ireturn, 1) := by decide +kernel
theorem dMO_of_147 : decode cMO_of 147 = .ok (.iconst (-1), 1) := by decide +kernel
theorem dMO_of_148 : decode cMO_of 148 = .ok (.ireturn, 1) := by decide +kernel
theorem dMO_isMember_0 : decode cMO_isMember 0 = .ok (.aload_n 0, 1) := by decide +kernel
theorem dMO_isMember_1 : decode cMO_isMember 1 = .ok (.iload_n 1, 1) := by decide +kernel
theorem dMO_isMember_2 : decode cMO_isMember 2 = .ok (.invokevirtual 151, 3) := by decide +kernel
theorem dMO_isMember_5 : decode cMO_isMember 5 = .ok (.ifCond .eq 21, 3) := by decide +kernel
theorem dMO_isMember_8 : decode cMO_isMember 8 = .ok (.iload_n 2, 1) := by decide +kernel
theorem dMO_isMember_9 : decode cMO_isMember 9 = .ok (.ifCond .lt 17, 3) := by decide +kernel
theorem dMO_isMember_12 : decode cMO_isMember 12 = .ok (.iload_n 2, 1) := by decide +kernel
theorem dMO_isMember_13 : decode cMO_isMember 13 = .ok (.aload_n 0, 1) := by decide +kernel
theorem dMO_isMember_14 : decode cMO_isMember 14 = .ok (.getfield 28, 3) := by decide +kernel
theorem dMO_isMember_17 : decode cMO_isMember 17 = .ok (.iload_n 1, 1) := by decide +kernel
theorem dMO_isMember_18 : decode cMO_isMember 18 = .ok (.iaload, 1) := by decide +kernel
theorem dMO_isMember_19 : decode cMO_isMember 19 = .ok (.if_icmp .ge 7, 3) := by decide +kernel
theorem dMO_isMember_22 : decode cMO_isMember 22 = .ok (.iconst 1, 1) := by decide +kernel
theorem dMO_isMember_23 : decode cMO_isMember 23 = .ok (.goto 4, 3) := by decide +kernel
theorem dMO_isMember_26 : decode cMO_isMember 26 = .ok (.iconst 0, 1) := by decide +kernel
theorem dMO_isMember_27 : decode cMO_isMember 27 = .ok (.ireturn, 1) := by decide +kernel
theorem dMO_product_0 : decode cMO_product 0 = .ok (.aload_n 0, 1) := by decide +kernel
theorem dMO_product_1 : decode cMO_product 1 = .ok (.iload_n 1, 1) := by decide +kernel
theorem dMO_product_2 : decode cMO_product 2 = .ok (.iload_n 2, 1) := by decide +kernel
theorem dMO_product_3 : decode cMO_product 3 = .ok (.invokevirtual 172, 3) := by decide +kernel
theorem dMO_product_6 : decode cMO_product 6 = .ok (.ifCond .eq 48, 3) := by decide +kernel
theorem dMO_product_9 : decode cMO_product 9 = .ok (.aload_n 0, 1) := by decide +kernel
theorem dMO_product_10 : decode cMO_product 10 = .ok (.iload_n 1, 1) := by decide +kernel
theorem dMO_product_11 : decode cMO_product 11 = .ok (.iload_n 3, 1) := by decide +kernel
theorem dMO_product_12 : decode cMO_product 12 = .ok (.invokevirtual 172, 3) := by decide +kernel
theorem dMO_product_15 : decode cMO_product 15 = .ok (.ifCond .eq 39, 3) := by decide +kernel
theorem dMO_product_18 : decode cMO_product 18 = .ok (.aload_n 0, 1) := by decide +kernel
theorem dMO_product_19 : decode cMO_product 19 = .ok (.iload_n 1, 1) := by decide +kernel
theorem dMO_product_20 : decode cMO_product 20 = .ok (.aload_n 0, 1) := by decide +kernel
theorem dMO_product_21 : decode cMO_product 21 = .ok (.aload_n 0, 1) := by decide +kernel
theorem dMO_product_22 : decode cMO_product 22 = .ok (.getfield 25, 3) := by decide +kernel
theorem dMO_product_25 : decode cMO_product 25 = .ok (.sipush 192, 3) := by decide +kernel
theorem dMO_product_28 : decode cMO_product 28 = .ok (.iload_n 1, 1) := by decide +kernel
theorem dMO_product_29 : decode cMO_product 29 = .ok (.imul, 1) := by decide +kernel
theorem dMO_product_30 : decode cMO_product 30 = .ok (.iload_n 2, 1) := by decide +kernel
theorem dMO_product_31 : decode cMO_product 31 = .ok (.iadd, 1) := by decide +kernel
theorem dMO_product_32 : decode cMO_product 32 = .ok (.iaload, 1) := by decide +kernel
theorem dMO_product_33 : decode cMO_product 33 = .ok (.aload_n 0, 1) := by decide +kernel
theorem dMO_product_34 : decode cMO_product 34 = .ok (.getfield 25, 3) := by decide +kernel
theorem dMO_product_37 : decode cMO_product 37 = .ok (.sipush 192, 3) := by decide +kernel
theorem dMO_product_40 : decode cMO_product 40 = .ok (.iload_n 1, 1) := by decide +kernel
theorem dMO_product_41 : decode cMO_product 41 = .ok (.imul, 1) := by decide +kernel
theorem dMO_product_42 : decode cMO_product 42 = .ok (.iload_n 3, 1) := by decide +kernel
theorem dMO_product_43 : decode cMO_product 43 = .ok (.iadd, 1) := by decide +kernel
theorem dMO_product_44 : decode cMO_product 44 = .ok (.iaload, 1) := by decide +kernel
theorem dMO_product_45 : decode cMO_product 45 = .ok (.invokevirtual 102, 3) := by decide +kernel
theorem dMO_product_48 : decode cMO_product 48 = .ok (.invokevirtual 119, 3) := by decide +kernel
