/-! decode rows: written by wip/whole/names.py -/
theorem dHA_init_0 : decode cHA_init 0 = .ok (.aload_n 0, 1) := by decide +kernel
theorem dHA_init_1 : decode cHA_init 1 = .ok (.invokespecial 3, 3) := by decide +kernel
theorem dHA_init_4 : decode cHA_init 4 = .ok (.aload_n 0, 1) := by decide +kernel
theorem dHA_init_5 : decode cHA_init 5 = .ok (.iconst 0, 1) := by decide +kernel
theorem dHA_init_6 : decode cHA_init 6 = .ok (.putfield 9, 3) := by decide +kernel
theorem dHA_init_9 : decode cHA_init 9 = .ok (.aload_n 0, 1) := by decide +kernel
theorem dHA_init_10 : decode cHA_init 10 = .ok (.aload_n 1, 1) := by decide +kernel
theorem dHA_init_11 : decode cHA_init 11 = .ok (.invokevirtual 15, 3) := by decide +kernel
theorem dHA_init_14 : decode cHA_init 14 = .ok (.newarray .int, 2) := by decide +kernel
theorem dHA_init_16 : decode cHA_init 16 = .ok (.putfield 21, 3) := by decide +kernel
theorem dHA_init_19 : decode cHA_init 19 = .ok (.aload_n 3, 1) := by decide +kernel
theorem dHA_init_20 : decode cHA_init 20 = .ok (.invokevirtual 25, 3) := by decide +kernel
theorem dHA_init_23 : decode cHA_init 23 = .ok (.iconst 0, 1) := by decide +kernel
theorem dHA_init_24 : decode cHA_init 24 = .ok (.istore 4, 2) := by decide +kernel
theorem dHA_init_26 : decode cHA_init 26 = .ok (.iload 4, 2) := by decide +kernel
theorem dHA_init_28 : decode cHA_init 28 = .ok (.aload_n 0, 1) := by decide +kernel
theorem dHA_init_29 : decode cHA_init 29 = .ok (.getfield 21, 3) := by decide +kernel
theorem dHA_init_32 : decode cHA_init 32 = .ok (.arraylength, 1) := by decide +kernel
theorem dHA_init_33 : decode cHA_init 33 = .ok (.if_icmp .ge 30, 3) := by decide +kernel
theorem dHA_init_36 : decode cHA_init 36 = .ok (.aload_n 3, 1) := by decide +kernel
theorem dHA_init_37 : decode cHA_init 37 = .ok (.aload_n 2, 1) := by decide +kernel
theorem dHA_init_38 : decode cHA_init 38 = .ok (.aload_n 1, 1) := by decide +kernel
theorem dHA_init_39 : decode cHA_init 39 = .ok (.iload 4, 2) := by decide +kernel
theorem dHA_init_41 : decode cHA_init 41 = .ok (.invokevirtual 30, 3) := by decide +kernel
theorem dHA_init_44 : decode cHA_init 44 = .ok (.aload_n 1, 1) := by decide +kernel
theorem dHA_init_45 : decode cHA_init 45 = .ok (.iload 4, 2) := by decide +kernel
theorem dHA_init_47 : decode cHA_init 47 = .ok (.invokevirtual 30, 3) := by decide +kernel
theorem dHA_init_50 : decode cHA_init 50 = .ok (.invokevirtual 34, 3) := by decide +kernel
theorem dHA_init_53 : decode cHA_init 53 = .ok (.invokevirtual 40, 3) := by decide +kernel
theorem dHA_init_56 : decode cHA_init 56 = .ok (.pop, 1) := by decide +kernel
theorem dHA_init_57 : decode cHA_init 57 = .ok (.iinc 4 1, 3) := by decide +kernel
theorem dHA_init_60 : decode cHA_init 60 = .ok (.goto (-34), 3) := by decide +kernel
theorem dHA_init_63 : decode cHA_init 63 = .ok (.iconst 0, 1) := by decide +kernel
theorem dHA_init_64 : decode cHA_init 64 = .ok (.istore 4, 2) := by decide +kernel
theorem dHA_init_66 : decode cHA_init 66 = .ok (.iload 4, 2) := by decide +kernel
theorem dHA_init_68 : decode cHA_init 68 = .ok (.aload_n 0, 1) := by decide +kernel
theorem dHA_init_69 : decode cHA_init 69 = .ok (.getfield 21, 3) := by decide +kernel
theorem dHA_init_72 : decode cHA_init 72 = .ok (.arraylength, 1) := by decide +kernel
theorem dHA_init_73 : decode cHA_init 73 = .ok (.if_icmp .ge 37, 3) := by decide +kernel
theorem dHA_init_76 : decode cHA_init 76 = .ok (.aload_n 0, 1) := by decide +kernel
theorem dHA_init_77 : decode cHA_init 77 = .ok (.getfield 21, 3) := by decide +kernel
theorem dHA_init_80 : decode cHA_init 80 = .ok (.iload 4, 2) := by decide +kernel
theorem dHA_init_82 : decode cHA_init 82 = .ok (.aload_n 3, 1) := by decide +kernel
theorem dHA_init_83 : decode cHA_init 83 = .ok (.invokevirtual 44, 3) := by decide +kernel
theorem dHA_init_86 : decode cHA_init 86 = .ok (.aload_n 1, 1) := by decide +kernel
theorem dHA_init_87 : decode cHA_init 87 = .ok (.iload 4, 2) := by decide +kernel
theorem dHA_init_89 : decode cHA_init 89 = .ok (.invokevirtual 30, 3) := by decide +kernel
theorem dHA_init_92 : decode cHA_init 92 = .ok (.invokevirtual 48, 3) := by decide +kernel
theorem dHA_init_95 : decode cHA_init 95 = .ok (.ifCond .eq 7, 3) := by decide +kernel
theorem dHA_init_98 : decode cHA_init 98 = .ok (.iconst 0, 1) := by decide +kernel
theorem dHA_init_99 : decode cHA_init 99 = .ok (.goto 4, 3) := by decide +kernel
theorem dHA_init_102 : decode cHA_init 102 = .ok (.iconst (-1), 1) := by decide +kernel
theorem dHA_init_103 : decode cHA_init 103 = .ok (.iastore, 1) := by decide +kernel
theorem dHA_init_104 : decode cHA_init 104 = .ok (.iinc 4 1, 3) := by decide +kernel
theorem dHA_init_107 : decode cHA_init 107 = .ok (.goto (-41), 3) := by decide +kernel
theorem dHA_init_110 : decode cHA_init 110 = .ok (.iconst 0, 1) := by decide +kernel
theorem dHA_init_111 : decode cHA_init 111 = .ok (.istore 4, 2) := by decide +kernel
theorem dHA_init_113 : decode cHA_init 113 = .ok (.iload 4, 2) := by decide +kernel
theorem dHA_init_115 : decode cHA_init 115 = .ok (.aload_n 0, 1) := by decide +kernel
theorem dHA_init_116 : decode cHA_init 116 = .ok (.getfield 21, 3) := by decide +kernel
theorem dHA_init_119 : decode cHA_init 119 = .ok (.arraylength, 1) := by decide +kernel
theorem dHA_init_120 : decode cHA_init 120 = .ok (.if_icmp .ge 28, 3) := by decide +kernel
theorem dHA_init_123 : decode cHA_init 123 = .ok (.aload_n 0, 1) := by decide +kernel
theorem dHA_init_124 : decode cHA_init 124 = .ok (.getfield 21, 3) := by decide +kernel
theorem dHA_init_127 : decode cHA_init 127 = .ok (.iload 4, 2) := by decide +kernel
theorem dHA_init_129 : decode cHA_init 129 = .ok (.iaload, 1) := by decide +kernel
theorem dHA_init_130 : decode cHA_init 130 = .ok (.iconst (-1), 1) := by decide +kernel
theorem dHA_init_131 : decode cHA_init 131 = .ok (.if_icmp .ne 11, 3) := by decide +kernel
theorem dHA_init_134 : decode cHA_init 134 = .ok (.aload_n 0, 1) := by decide +kernel
theorem dHA_init_135 : decode cHA_init 135 = .ok (.iload 4, 2) := by decide +kernel
theorem dHA_init_137 : decode cHA_init 137 = .ok (.aload_n 1, 1) := by decide +kernel
theorem dHA_init_138 : decode cHA_init 138 = .ok (.aload_n 2, 1) := by decide +kernel
theorem dHA_init_139 : decode cHA_init 139 = .ok (.invokevirtual 51, 3) := by decide +kernel
theorem dHA_init_142 : decode cHA_init 142 = .ok (.iinc 4 1, 3) := by decide +kernel
theorem dHA_init_145 : decode cHA_init 145 = .ok (.goto (-32), 3) := by decide +kernel
theorem dHA_init_148 : decode cHA_init 148 = .ok (.return_, 1) := by decide +kernel
theorem dHA_addBit_0 : decode cHA_addBit 0 = .ok (.iconst 1, 1) := by decide +kernel
theorem dHA_addBit_1 : decode cHA_addBit 1 = .ok (.aload_n 0, 1) := by decide +kernel
theorem dHA_addBit_2 : decode cHA_addBit 2 = .ok (.getfield 9, 3) := by decide +kernel
theorem dHA_addBit_5 : decode cHA_addBit 5 = .ok (.ishl, 1) := by decide +kernel
theorem dHA_addBit_6 : decode cHA_addBit 6 = .ok (.istore 4, 2) := by decide +kernel
theorem dHA_addBit_8 : decode cHA_addBit 8 = .ok (.aload_n 0, 1) := by decide +kernel
theorem dHA_addBit_9 : decode cHA_addBit 9 = .ok (.dup, 1) := by decide +kernel
theorem dHA_addBit_10 : decode cHA_addBit 10 = .ok (.getfield 9, 3) := by decide +kernel
theorem dHA_addBit_13 : decode cHA_addBit 13 = .ok (.iconst 1, 1) := by decide +kernel
theorem dHA_addBit_14 : decode cHA_addBit 14 = .ok (.iadd, 1) := by decide +kernel
theorem dHA_addBit_15 : decode cHA_addBit 15 = .ok (.putfield 9, 3) := by decide +kernel
theorem dHA_addBit_18 : decode cHA_addBit 18 = .ok (.iconst 0, 1) := by decide +kernel
theorem dHA_addBit_19 : decode cHA_addBit 19 = .ok (.istore 5, 2) := by decide +kernel
theorem dHA_addBit_21 : decode cHA_addBit 21 = .ok (.iload 5, 2) := by decide +kernel
theorem dHA_addBit_23 : decode cHA_addBit 23 = .ok (.aload_n 0, 1) := by decide +kernel
theorem dHA_addBit_24 : decode cHA_addBit 24 = .ok (.getfield 21, 3) := by decide +kernel
theorem dHA_addBit_27 : decode cHA_addBit 27 = .ok (.arraylength, 1) := by decide +kernel
theorem dHA_addBit_28 : decode cHA_addBit 28 = .ok (.if_icmp .ge 85, 3) := by decide +kernel
theorem dHA_addBit_31 : decode cHA_addBit 31 = .ok (.aload_n 0, 1) := by decide +kernel
theorem dHA_addBit_32 : decode cHA_addBit 32 = .ok (.getfield 21, 3) := by decide +kernel
theorem dHA_addBit_35 : decode cHA_addBit 35 = .ok (.iload 5, 2) := by decide +kernel
theorem dHA_addBit_37 : decode cHA_addBit 37 = .ok (.iaload, 1) := by decide +kernel
theorem dHA_addBit_38 : decode cHA_addBit 38 = .ok (.iconst (-1), 1) := by decide +kernel
theorem dHA_addBit_39 : decode cHA_addBit 39 = .ok (.if_icmp .eq 68, 3) := by decide +kernel
theorem dHA_addBit_42 : decode cHA_addBit 42 = .ok (.aload_n 0, 1) := by decide +kernel
theorem dHA_addBit_43 : decode cHA_addBit 43 = .ok (.getfield 21, 3) := by decide +kernel
theorem dHA_addBit_46 : decode cHA_addBit 46 = .ok (.iload 5, 2) := by decide +kernel
theorem dHA_addBit_48 : decode cHA_addBit 48 = .ok (.iaload, 1) := by decide +kernel
theorem dHA_addBit_49 : decode cHA_addBit 49 = .ok (.iload 4, 2) := by decide +kernel
theorem dHA_addBit_51 : decode cHA_addBit 51 = .ok (.if_icmp .ge 56, 3) := by decide +kernel
theorem dHA_addBit_54 : decode cHA_addBit 54 = .ok (.aload_n 2, 1) := by decide +kernel
theorem dHA_addBit_55 : decode cHA_addBit 55 = .ok (.aload_n 3, 1) := by decide +kernel
theorem dHA_addBit_56 : decode cHA_addBit 56 = .ok (.aload_n 2, 1) := by decide +kernel
theorem dHA_addBit_57 : decode cHA_addBit 57 = .ok (.iload 5, 2) := by decide +kernel
theorem dHA_addBit_59 : decode cHA_addBit 59 = .ok (.invokevirtual 30, 3) := by decide +kernel
theorem dHA_addBit_62 : decode cHA_addBit 62 = .ok (.aload_n 2, 1) := by decide +kernel
theorem dHA_addBit_63 : decode cHA_addBit 63 = .ok (.iload_n 1, 1) := by decide +kernel
theorem dHA_addBit_64 : decode cHA_addBit 64 = .ok (.invokevirtual 30, 3) := by decide +kernel
theorem dHA_addBit_67 : decode cHA_addBit 67 = .ok (.invokevirtual 34, 3) := by decide +kernel
theorem dHA_addBit_70 : decode cHA_addBit 70 = .ok (.invokevirtual 69, 3) := by decide +kernel
theorem dHA_addBit_73 : decode cHA_addBit 73 = .ok (.istore 6, 2) := by decide +kernel
theorem dHA_addBit_75 : decode cHA_addBit 75 = .ok (.iload 6, 2) := by decide +kernel
theorem dHA_addBit_77 : decode cHA_addBit 77 = .ok (.ifCond .lt 30, 3) := by decide +kernel
theorem dHA_addBit_80 : decode cHA_addBit 80 = .ok (.iload 6, 2) := by decide +kernel
theorem dHA_addBit_82 : decode cHA_addBit 82 = .ok (.aload_n 0, 1) := by decide +kernel
theorem dHA_addBit_83 : decode cHA_addBit 83 = .ok (.getfield 21, 3) := by decide +kernel
theorem dHA_addBit_86 : decode cHA_addBit 86 = .ok (.arraylength, 1) := by decide +kernel
theorem dHA_addBit_87 : decode cHA_addBit 87 = .ok (.if_icmp .ge 20, 3) := by decide +kernel
theorem dHA_addBit_90 : decode cHA_addBit 90 = .ok (.aload_n 0, 1) := by decide +kernel
theorem dHA_addBit_91 : decode cHA_addBit 91 = .ok (.getfield 21, 3) := by decide +kernel
theorem dHA_addBit_94 : decode cHA_addBit 94 = .ok (.iload 6, 2) := by decide +kernel
theorem dHA_addBit_96 : decode cHA_addBit 96 = .ok (.aload_n 0, 1) := by decide +kernel
theorem dHA_addBit_97 : decode cHA_addBit 97 = .ok (.getfield 21, 3) := by decide +kernel
theorem dHA_addBit_100 : decode cHA_addBit 100 = .ok (.iload 5, 2) := by decide +kernel
theorem dHA_addBit_102 : decode cHA_addBit 102 = .ok (.iaload, 1) := by decide +kernel
theorem dHA_addBit_103 : decode cHA_addBit 103 = .ok (.iload 4, 2) := by decide +kernel
theorem dHA_addBit_105 : decode cHA_addBit 105 = .ok (.ior, 1) := by decide +kernel
theorem dHA_addBit_106 : decode cHA_addBit 106 = .ok (.iastore, 1) := by decide +kernel
theorem dHA_addBit_107 : decode cHA_addBit 107 = .ok (.iinc 5 1, 3) := by decide +kernel
theorem dHA_addBit_110 : decode cHA_addBit 110 = .ok (.goto (-89), 3) := by decide +kernel
theorem dHA_addBit_113 : decode cHA_addBit 113 = .ok (.return_, 1) := by decide +kernel
theorem dHA_count_0 : decode cHA_count 0 = .ok (.iconst 1, 1) := by decide +kernel
theorem dHA_count_1 : decode cHA_count 1 = .ok (.aload_n 0, 1) := by decide +kernel
theorem dHA_count_2 : decode cHA_count 2 = .ok (.getfield 9, 3) := by decide +kernel
theorem dHA_count_5 : decode cHA_count 5 = .ok (.ishl, 1) := by decide +kernel
theorem dHA_count_6 : decode cHA_count 6 = .ok (.iconst 1, 1) := by decide +kernel
theorem dHA_count_7 : decode cHA_count 7 = .ok (.isub, 1) := by decide +kernel
theorem dHA_count_8 : decode cHA_count 8 = .ok (.ireturn, 1) := by decide +kernel
theorem dHA_gather_0 : decode cHA_gather 0 = .ok (.aload_n 0, 1) := by decide +kernel
theorem dHA_gather_1 : decode cHA_gather 1 = .ok (.iload_n 1, 1) := by decide +kernel
theorem dHA_gather_2 : decode cHA_gather 2 = .ok (.invokevirtual 55, 3) := by decide +kernel
theorem dHA_gather_5 : decode cHA_gather 5 = .ok (.istore 4, 2) := by decide +kernel
theorem dHA_gather_7 : decode cHA_gather 7 = .ok (.aload_n 3, 1) := by decide +kernel
theorem dHA_gather_8 : decode cHA_gather 8 = .ok (.invokevirtual 58, 3) := by decide +kernel
theorem dHA_gather_11 : decode cHA_gather 11 = .ok (.iconst 0, 1) := by decide +kernel
theorem dHA_gather_12 : decode cHA_gather 12 = .ok (.istore 5, 2) := by decide +kernel
theorem dHA_gather_14 : decode cHA_gather 14 = .ok (.iload 5, 2) := by decide +kernel
theorem dHA_gather_16 : decode cHA_gather 16 = .ok (.aload_n 0, 1) := by decide +kernel
theorem dHA_gather_17 : decode cHA_gather 17 = .ok (.getfield 21, 3) := by decide +kernel
theorem dHA_gather_20 : decode cHA_gather 20 = .ok (.arraylength, 1) := by decide +kernel
theorem dHA_gather_21 : decode cHA_gather 21 = .ok (.if_icmp .ge 38, 3) := by decide +kernel
theorem dHA_gather_24 : decode cHA_gather 24 = .ok (.aload_n 0, 1) := by decide +kernel
theorem dHA_gather_25 : decode cHA_gather 25 = .ok (.getfield 21, 3) := by decide +kernel
theorem dHA_gather_28 : decode cHA_gather 28 = .ok (.iload 5, 2) := by decide +kernel
theorem dHA_gather_30 : decode cHA_gather 30 = .ok (.iaload, 1) := by decide +kernel
theorem dHA_gather_31 : decode cHA_gather 31 = .ok (.iload 4, 2) := by decide +kernel
theorem dHA_gather_33 : decode cHA_gather 33 = .ok (.iand, 1) := by decide +kernel
theorem dHA_gather_34 : decode cHA_gather 34 = .ok (.invokestatic 61, 3) := by decide +kernel
theorem dHA_gather_37 : decode cHA_gather 37 = .ok (.iconst 2, 1) := by decide +kernel
theorem dHA_gather_38 : decode cHA_gather 38 = .ok (.irem, 1) := by decide +kernel
theorem dHA_gather_39 : decode cHA_gather 39 = .ok (.ifCond .ne 14, 3) := by decide +kernel
theorem dHA_gather_42 : decode cHA_gather 42 = .ok (.aload_n 3, 1) := by decide +kernel
theorem dHA_gather_43 : decode cHA_gather 43 = .ok (.aload_n 2, 1) := by decide +kernel
theorem dHA_gather_44 : decode cHA_gather 44 = .ok (.iload 5, 2) := by decide +kernel
theorem dHA_gather_46 : decode cHA_gather 46 = .ok (.invokevirtual 30, 3) := by decide +kernel
theorem dHA_gather_49 : decode cHA_gather 49 = .ok (.invokevirtual 66, 3) := by decide +kernel
theorem dHA_gather_52 : decode cHA_gather 52 = .ok (.pop, 1) := by decide +kernel
theorem dHA_gather_53 : decode cHA_gather 53 = .ok (.iinc 5 1, 3) := by decide +kernel
theorem dHA_gather_56 : decode cHA_gather 56 = .ok (.goto (-42), 3) := by decide +kernel
theorem dHA_gather_59 : decode cHA_gather 59 = .ok (.return_, 1) := by decide +kernel
theorem dHA_refusedBits_0 : decode cHA_refusedBits 0 = .ok (.iconst 0, 1) := by decide +kernel
theorem dHA_refusedBits_1 : decode cHA_refusedBits 1 = .ok (.istore_n 2, 1) := by decide +kernel
theorem dHA_refusedBits_2 : decode cHA_refusedBits 2 = .ok (.iconst 0, 1) := by decide +kernel
theorem dHA_refusedBits_3 : decode cHA_refusedBits 3 = .ok (.istore_n 3, 1) := by decide +kernel
theorem dHA_refusedBits_4 : decode cHA_refusedBits 4 = .ok (.iload_n 3, 1) := by decide +kernel
theorem dHA_refusedBits_5 : decode cHA_refusedBits 5 = .ok (.aload_n 0, 1) := by decide +kernel
theorem dHA_refusedBits_6 : decode cHA_refusedBits 6 = .ok (.getfield 9, 3) := by decide +kernel
theorem dHA_refusedBits_9 : decode cHA_refusedBits 9 = .ok (.if_icmp .ge 21, 3) := by decide +kernel
theorem dHA_refusedBits_12 : decode cHA_refusedBits 12 = .ok (.iload_n 2, 1) := by decide +kernel
theorem dHA_refusedBits_13 : decode cHA_refusedBits 13 = .ok (.iconst 1, 1) := by decide +kernel
theorem dHA_refusedBits_14 : decode cHA_refusedBits 14 = .ok (.ishl, 1) := by decide +kernel
theorem dHA_refusedBits_15 : decode cHA_refusedBits 15 = .ok (.iload_n 1, 1) := by decide +kernel
theorem dHA_refusedBits_16 : decode cHA_refusedBits 16 = .ok (.iconst 1, 1) := by decide +kernel
theorem dHA_refusedBits_17 : decode cHA_refusedBits 17 = .ok (.iadd, 1) := by decide +kernel
theorem dHA_refusedBits_18 : decode cHA_refusedBits 18 = .ok (.iload_n 3, 1) := by decide +kernel
theorem dHA_refusedBits_19 : decode cHA_refusedBits 19 = .ok (.iushr, 1) := by decide +kernel
theorem dHA_refusedBits_20 : decode cHA_refusedBits 20 = .ok (.iconst 1, 1) := by decide +kernel
theorem dHA_refusedBits_21 : decode cHA_refusedBits 21 = .ok (.iand, 1) := by decide +kernel
theorem dHA_refusedBits_22 : decode cHA_refusedBits 22 = .ok (.ior, 1) := by decide +kernel
theorem dHA_refusedBits_23 : decode cHA_refusedBits 23 = .ok (.istore_n 2, 1) := by decide +kernel
theorem dHA_refusedBits_24 : decode cHA_refusedBits 24 = .ok (.iinc 3 1, 3) := by decide +kernel
theorem dHA_refusedBits_27 : decode cHA_refusedBits 27 = .ok (.goto (-23), 3) := by decide +kernel
theorem dHA_refusedBits_30 : decode cHA_refusedBits 30 = .ok (.iload_n 2, 1) := by decide +kernel
theorem dHA_refusedBits_31 : decode cHA_refusedBits 31 = .ok (.ireturn, 1) := by decide +kernel
