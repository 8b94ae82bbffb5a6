/-! decode rows: written by wip/whole/names.py -/
theorem dMO_product_51 : decode cMO_product 51 = .ok (.goto 4, 3) := by decide +kernel
theorem dMO_product_54 : decode cMO_product 54 = .ok (.iconst (-1), 1) := by decide +kernel
theorem dMO_product_55 : decode cMO_product 55 = .ok (.ireturn, 1) := by decide +kernel
theorem dMO_find_0 : decode cMO_find 0 = .ok (.aload_n 0, 1) := by decide +kernel
theorem dMO_find_1 : decode cMO_find 1 = .ok (.iload_n 1, 1) := by decide +kernel
theorem dMO_find_2 : decode cMO_find 2 = .ok (.invokevirtual 151, 3) := by decide +kernel
theorem dMO_find_5 : decode cMO_find 5 = .ok (.ifCond .eq 25, 3) := by decide +kernel
theorem dMO_find_8 : decode cMO_find 8 = .ok (.iload_n 2, 1) := by decide +kernel
theorem dMO_find_9 : decode cMO_find 9 = .ok (.ifCond .lt 21, 3) := by decide +kernel
theorem dMO_find_12 : decode cMO_find 12 = .ok (.iload_n 2, 1) := by decide +kernel
theorem dMO_find_13 : decode cMO_find 13 = .ok (.sipush 19683, 3) := by decide +kernel
theorem dMO_find_16 : decode cMO_find 16 = .ok (.if_icmp .ge 14, 3) := by decide +kernel
theorem dMO_find_19 : decode cMO_find 19 = .ok (.iload_n 3, 1) := by decide +kernel
theorem dMO_find_20 : decode cMO_find 20 = .ok (.ifCond .lt 10, 3) := by decide +kernel
theorem dMO_find_23 : decode cMO_find 23 = .ok (.iload_n 3, 1) := by decide +kernel
theorem dMO_find_24 : decode cMO_find 24 = .ok (.sipush 13824, 3) := by decide +kernel
theorem dMO_find_27 : decode cMO_find 27 = .ok (.if_icmp .lt 5, 3) := by decide +kernel
theorem dMO_find_30 : decode cMO_find 30 = .ok (.iconst (-1), 1) := by decide +kernel
theorem dMO_find_31 : decode cMO_find 31 = .ok (.ireturn, 1) := by decide +kernel
theorem dMO_find_32 : decode cMO_find 32 = .ok (.aload_n 0, 1) := by decide +kernel
theorem dMO_find_33 : decode cMO_find 33 = .ok (.iload_n 1, 1) := by decide +kernel
theorem dMO_find_34 : decode cMO_find 34 = .ok (.sipush 13824, 3) := by decide +kernel
theorem dMO_find_37 : decode cMO_find 37 = .ok (.iload_n 2, 1) := by decide +kernel
theorem dMO_find_38 : decode cMO_find 38 = .ok (.imul, 1) := by decide +kernel
theorem dMO_find_39 : decode cMO_find 39 = .ok (.iload_n 3, 1) := by decide +kernel
theorem dMO_find_40 : decode cMO_find 40 = .ok (.iadd, 1) := by decide +kernel
theorem dMO_find_41 : decode cMO_find 41 = .ok (.invokevirtual 119, 3) := by decide +kernel
theorem dMO_find_44 : decode cMO_find 44 = .ok (.ireturn, 1) := by decide +kernel
theorem dMO_half_0 : decode cMO_half 0 = .ok (.aload_n 0, 1) := by decide +kernel
theorem dMO_half_1 : decode cMO_half 1 = .ok (.iload_n 1, 1) := by decide +kernel
theorem dMO_half_2 : decode cMO_half 2 = .ok (.invokevirtual 151, 3) := by decide +kernel
theorem dMO_half_5 : decode cMO_half 5 = .ok (.ifCond .ne 5, 3) := by decide +kernel
theorem dMO_half_8 : decode cMO_half 8 = .ok (.iconst (-1), 1) := by decide +kernel
theorem dMO_half_9 : decode cMO_half 9 = .ok (.ireturn, 1) := by decide +kernel
theorem dMO_half_10 : decode cMO_half 10 = .ok (.aload_n 0, 1) := by decide +kernel
theorem dMO_half_11 : decode cMO_half 11 = .ok (.iload_n 1, 1) := by decide +kernel
theorem dMO_half_12 : decode cMO_half 12 = .ok (.invokevirtual 168, 3) := by decide +kernel
theorem dMO_half_15 : decode cMO_half 15 = .ok (.iload_n 2, 1) := by decide +kernel
theorem dMO_half_16 : decode cMO_half 16 = .ok (.ifCond .lt 13, 3) := by decide +kernel
theorem dMO_half_19 : decode cMO_half 19 = .ok (.iload_n 2, 1) := by decide +kernel
theorem dMO_half_20 : decode cMO_half 20 = .ok (.aload_n 0, 1) := by decide +kernel
theorem dMO_half_21 : decode cMO_half 21 = .ok (.getfield 40, 3) := by decide +kernel
theorem dMO_half_24 : decode cMO_half 24 = .ok (.iload_n 1, 1) := by decide +kernel
theorem dMO_half_25 : decode cMO_half 25 = .ok (.iaload, 1) := by decide +kernel
theorem dMO_half_26 : decode cMO_half 26 = .ok (.if_icmp .lt 5, 3) := by decide +kernel
theorem dMO_half_29 : decode cMO_half 29 = .ok (.iconst (-1), 1) := by decide +kernel
theorem dMO_half_30 : decode cMO_half 30 = .ok (.ireturn, 1) := by decide +kernel
theorem dMO_half_31 : decode cMO_half 31 = .ok (.aload_n 0, 1) := by decide +kernel
theorem dMO_half_32 : decode cMO_half 32 = .ok (.iconst 0, 1) := by decide +kernel
theorem dMO_half_33 : decode cMO_half 33 = .ok (.putfield 95, 3) := by decide +kernel
theorem dMO_half_36 : decode cMO_half 36 = .ok (.iconst 0, 1) := by decide +kernel
theorem dMO_half_37 : decode cMO_half 37 = .ok (.istore_n 3, 1) := by decide +kernel
theorem dMO_half_38 : decode cMO_half 38 = .ok (.iload_n 3, 1) := by decide +kernel
theorem dMO_half_39 : decode cMO_half 39 = .ok (.aload_n 0, 1) := by decide +kernel
theorem dMO_half_40 : decode cMO_half 40 = .ok (.getfield 28, 3) := by decide +kernel
theorem dMO_half_43 : decode cMO_half 43 = .ok (.iload_n 1, 1) := by decide +kernel
theorem dMO_half_44 : decode cMO_half 44 = .ok (.iaload, 1) := by decide +kernel
theorem dMO_half_45 : decode cMO_half 45 = .ok (.if_icmp .ge 77, 3) := by decide +kernel
theorem dMO_half_48 : decode cMO_half 48 = .ok (.aload_n 0, 1) := by decide +kernel
theorem dMO_half_49 : decode cMO_half 49 = .ok (.getfield 47, 3) := by decide +kernel
theorem dMO_half_52 : decode cMO_half 52 = .ok (.sipush 384, 3) := by decide +kernel
theorem dMO_half_55 : decode cMO_half 55 = .ok (.iload_n 1, 1) := by decide +kernel
theorem dMO_half_56 : decode cMO_half 56 = .ok (.imul, 1) := by decide +kernel
theorem dMO_half_57 : decode cMO_half 57 = .ok (.iconst 3, 1) := by decide +kernel
theorem dMO_half_58 : decode cMO_half 58 = .ok (.iload_n 2, 1) := by decide +kernel
theorem dMO_half_59 : decode cMO_half 59 = .ok (.imul, 1) := by decide +kernel
theorem dMO_half_60 : decode cMO_half 60 = .ok (.iadd, 1) := by decide +kernel
theorem dMO_half_61 : decode cMO_half 61 = .ok (.iload_n 3, 1) := by decide +kernel
theorem dMO_half_62 : decode cMO_half 62 = .ok (.bipush 64, 2) := by decide +kernel
theorem dMO_half_64 : decode cMO_half 64 = .ok (.idiv, 1) := by decide +kernel
theorem dMO_half_65 : decode cMO_half 65 = .ok (.iadd, 1) := by decide +kernel
theorem dMO_half_66 : decode cMO_half 66 = .ok (.laload, 1) := by decide +kernel
theorem dMO_half_67 : decode cMO_half 67 = .ok (.bipush 63, 2) := by decide +kernel
theorem dMO_half_69 : decode cMO_half 69 = .ok (.iload_n 3, 1) := by decide +kernel
theorem dMO_half_70 : decode cMO_half 70 = .ok (.bipush 64, 2) := by decide +kernel
theorem dMO_half_72 : decode cMO_half 72 = .ok (.irem, 1) := by decide +kernel
theorem dMO_half_73 : decode cMO_half 73 = .ok (.isub, 1) := by decide +kernel
theorem dMO_half_74 : decode cMO_half 74 = .ok (.lshr, 1) := by decide +kernel
theorem dMO_half_75 : decode cMO_half 75 = .ok (.lconst 1, 1) := by decide +kernel
theorem dMO_half_76 : decode cMO_half 76 = .ok (.land, 1) := by decide +kernel
theorem dMO_half_77 : decode cMO_half 77 = .ok (.lconst 0, 1) := by decide +kernel
theorem dMO_half_78 : decode cMO_half 78 = .ok (.lcmp, 1) := by decide +kernel
theorem dMO_half_79 : decode cMO_half 79 = .ok (.ifCond .ne 6, 3) := by decide +kernel
theorem dMO_half_82 : decode cMO_half 82 = .ok (.goto 34, 3) := by decide +kernel
theorem dMO_half_85 : decode cMO_half 85 = .ok (.aload_n 0, 1) := by decide +kernel
theorem dMO_half_86 : decode cMO_half 86 = .ok (.getfield 31, 3) := by decide +kernel
theorem dMO_half_89 : decode cMO_half 89 = .ok (.aload_n 0, 1) := by decide +kernel
theorem dMO_half_90 : decode cMO_half 90 = .ok (.getfield 95, 3) := by decide +kernel
theorem dMO_half_93 : decode cMO_half 93 = .ok (.aload_n 0, 1) := by decide +kernel
theorem dMO_half_94 : decode cMO_half 94 = .ok (.getfield 25, 3) := by decide +kernel
theorem dMO_half_97 : decode cMO_half 97 = .ok (.sipush 192, 3) := by decide +kernel
theorem dMO_half_100 : decode cMO_half 100 = .ok (.iload_n 1, 1) := by decide +kernel
theorem dMO_half_101 : decode cMO_half 101 = .ok (.imul, 1) := by decide +kernel
theorem dMO_half_102 : decode cMO_half 102 = .ok (.iload_n 3, 1) := by decide +kernel
theorem dMO_half_103 : decode cMO_half 103 = .ok (.iadd, 1) := by decide +kernel
theorem dMO_half_104 : decode cMO_half 104 = .ok (.iaload, 1) := by decide +kernel
theorem dMO_half_105 : decode cMO_half 105 = .ok (.iastore, 1) := by decide +kernel
theorem dMO_half_106 : decode cMO_half 106 = .ok (.aload_n 0, 1) := by decide +kernel
theorem dMO_half_107 : decode cMO_half 107 = .ok (.dup, 1) := by decide +kernel
theorem dMO_half_108 : decode cMO_half 108 = .ok (.getfield 95, 3) := by decide +kernel
theorem dMO_half_111 : decode cMO_half 111 = .ok (.iconst 1, 1) := by decide +kernel
theorem dMO_half_112 : decode cMO_half 112 = .ok (.iadd, 1) := by decide +kernel
theorem dMO_half_113 : decode cMO_half 113 = .ok (.putfield 95, 3) := by decide +kernel
theorem dMO_half_116 : decode cMO_half 116 = .ok (.iinc 3 1, 3) := by decide +kernel
theorem dMO_half_119 : decode cMO_half 119 = .ok (.goto (-81), 3) := by decide +kernel
theorem dMO_half_122 : decode cMO_half 122 = .ok (.aload_n 0, 1) := by decide +kernel
theorem dMO_half_123 : decode cMO_half 123 = .ok (.invokevirtual 110, 3) := by decide +kernel
theorem dMO_half_126 : decode cMO_half 126 = .ok (.ireturn, 1) := by decide +kernel
theorem dMO_both_0 : decode cMO_both 0 = .ok (.aload_n 0, 1) := by decide +kernel
theorem dMO_both_1 : decode cMO_both 1 = .ok (.iload_n 1, 1) := by decide +kernel
theorem dMO_both_2 : decode cMO_both 2 = .ok (.invokevirtual 151, 3) := by decide +kernel
theorem dMO_both_5 : decode cMO_both 5 = .ok (.ifCond .eq 11, 3) := by decide +kernel
theorem dMO_both_8 : decode cMO_both 8 = .ok (.aload_n 0, 1) := by decide +kernel
theorem dMO_both_9 : decode cMO_both 9 = .ok (.iload_n 2, 1) := by decide +kernel
theorem dMO_both_10 : decode cMO_both 10 = .ok (.invokevirtual 151, 3) := by decide +kernel
theorem dMO_both_13 : decode cMO_both 13 = .ok (.ifCond .ne 5, 3) := by decide +kernel
theorem dMO_both_16 : decode cMO_both 16 = .ok (.iconst (-1), 1) := by decide +kernel
theorem dMO_both_17 : decode cMO_both 17 = .ok (.ireturn, 1) := by decide +kernel
theorem dMO_both_18 : decode cMO_both 18 = .ok (.aload_n 0, 1) := by decide +kernel
theorem dMO_both_19 : decode cMO_both 19 = .ok (.iconst 0, 1) := by decide +kernel
theorem dMO_both_20 : decode cMO_both 20 = .ok (.putfield 95, 3) := by decide +kernel
theorem dMO_both_23 : decode cMO_both 23 = .ok (.iconst 0, 1) := by decide +kernel
theorem dMO_both_24 : decode cMO_both 24 = .ok (.istore_n 3, 1) := by decide +kernel
theorem dMO_both_25 : decode cMO_both 25 = .ok (.iload_n 3, 1) := by decide +kernel
theorem dMO_both_26 : decode cMO_both 26 = .ok (.aload_n 0, 1) := by decide +kernel
theorem dMO_both_27 : decode cMO_both 27 = .ok (.getfield 28, 3) := by decide +kernel
theorem dMO_both_30 : decode cMO_both 30 = .ok (.iload_n 1, 1) := by decide +kernel
theorem dMO_both_31 : decode cMO_both 31 = .ok (.iaload, 1) := by decide +kernel
theorem dMO_both_32 : decode cMO_both 32 = .ok (.if_icmp .ge 64, 3) := by decide +kernel
theorem dMO_both_35 : decode cMO_both 35 = .ok (.aload_n 0, 1) := by decide +kernel
theorem dMO_both_36 : decode cMO_both 36 = .ok (.iload_n 2, 1) := by decide +kernel
theorem dMO_both_37 : decode cMO_both 37 = .ok (.aload_n 0, 1) := by decide +kernel
theorem dMO_both_38 : decode cMO_both 38 = .ok (.getfield 25, 3) := by decide +kernel
theorem dMO_both_41 : decode cMO_both 41 = .ok (.sipush 192, 3) := by decide +kernel
theorem dMO_both_44 : decode cMO_both 44 = .ok (.iload_n 1, 1) := by decide +kernel
theorem dMO_both_45 : decode cMO_both 45 = .ok (.imul, 1) := by decide +kernel
theorem dMO_both_46 : decode cMO_both 46 = .ok (.iload_n 3, 1) := by decide +kernel
theorem dMO_both_47 : decode cMO_both 47 = .ok (.iadd, 1) := by decide +kernel
theorem dMO_both_48 : decode cMO_both 48 = .ok (.iaload, 1) := by decide +kernel
theorem dMO_both_49 : decode cMO_both 49 = .ok (.invokevirtual 119, 3) := by decide +kernel
theorem dMO_both_52 : decode cMO_both 52 = .ok (.iconst (-1), 1) := by decide +kernel
theorem dMO_both_53 : decode cMO_both 53 = .ok (.if_icmp .ne 6, 3) := by decide +kernel
theorem dMO_both_56 : decode cMO_both 56 = .ok (.goto 34, 3) := by decide +kernel
theorem dMO_both_59 : decode cMO_both 59 = .ok (.aload_n 0, 1) := by decide +kernel
theorem dMO_both_60 : decode cMO_both 60 = .ok (.getfield 31, 3) := by decide +kernel
theorem dMO_both_63 : decode cMO_both 63 = .ok (.aload_n 0, 1) := by decide +kernel
theorem dMO_both_64 : decode cMO_both 64 = .ok (.getfield 95, 3) := by decide +kernel
theorem dMO_both_67 : decode cMO_both 67 = .ok (.aload_n 0, 1) := by decide +kernel
theorem dMO_both_68 : decode cMO_both 68 = .ok (.getfield 25, 3) := by decide +kernel
theorem dMO_both_71 : decode cMO_both 71 = .ok (.sipush 192, 3) := by decide +kernel
theorem dMO_both_74 : decode cMO_both 74 = .ok (.iload_n 1, 1) := by decide +kernel
theorem dMO_both_75 : decode cMO_both 75 = .ok (.imul, 1) := by decide +kernel
theorem dMO_both_76 : decode cMO_both 76 = .ok (.iload_n 3, 1) := by decide +kernel
theorem dMO_both_77 : decode cMO_both 77 = .ok (.iadd, 1) := by decide +kernel
theorem dMO_both_78 : decode cMO_both 78 = .ok (.iaload, 1) := by decide +kernel
theorem dMO_both_79 : decode cMO_both 79 = .ok (.iastore, 1) := by decide +kernel
theorem dMO_both_80 : decode cMO_both 80 = .ok (.aload_n 0, 1) := by decide +kernel
theorem dMO_both_81 : decode cMO_both 81 = .ok (.dup, 1) := by decide +kernel
theorem dMO_both_82 : decode cMO_both 82 = .ok (.getfield 95, 3) := by decide +kernel
theorem dMO_both_85 : decode cMO_both 85 = .ok (.iconst 1, 1) := by decide +kernel
theorem dMO_both_86 : decode cMO_both 86 = .ok (.iadd, 1) := by decide +kernel
theorem dMO_both_87 : decode cMO_both 87 = .ok (.putfield 95, 3) := by decide +kernel
theorem dMO_both_90 : decode cMO_both 90 = .ok (.iinc 3 1, 3) := by decide +kernel
theorem dMO_both_93 : decode cMO_both 93 = .ok (.goto (-68), 3) := by decide +kernel
theorem dMO_both_96 : decode cMO_both 96 = .ok (.aload_n 0, 1) := by decide +kernel
theorem dMO_both_97 : decode cMO_both 97 = .ok (.invokevirtual 110, 3) := by decide +kernel
theorem dMO_both_100 : decode cMO_both 100 = .ok (.ireturn, 1) := by decide +kernel
theorem dMO_centre_0 : decode cMO_centre 0 = .ok (.aload_n 0, 1) := by decide +kernel
theorem dMO_centre_1 : decode cMO_centre 1 = .ok (.iload_n 1, 1) := by decide +kernel
theorem dMO_centre_2 : decode cMO_centre 2 = .ok (.invokevirtual 151, 3) := by decide +kernel
theorem dMO_centre_5 : decode cMO_centre 5 = .ok (.ifCond .ne 5, 3) := by decide +kernel
theorem dMO_centre_8 : decode cMO_centre 8 = .ok (.iconst (-1), 1) := by decide +kernel
theorem dMO_centre_9 : decode cMO_centre 9 = .ok (.ireturn, 1) := by decide +kernel
theorem dMO_centre_10 : decode cMO_centre 10 = .ok (.aload_n 0, 1) := by decide +kernel
theorem dMO_centre_11 : decode cMO_centre 11 = .ok (.iload_n 1, 1) := by decide +kernel
theorem dMO_centre_12 : decode cMO_centre 12 = .ok (.invokevirtual 168, 3) := by decide +kernel
theorem dMO_centre_15 : decode cMO_centre 15 = .ok (.aload_n 0, 1) := by decide +kernel
theorem dMO_centre_16 : decode cMO_centre 16 = .ok (.iconst 0, 1) := by decide +kernel
theorem dMO_centre_17 : decode cMO_centre 17 = .ok (.putfield 95, 3) := by decide +kernel
theorem dMO_centre_20 : decode cMO_centre 20 = .ok (.iconst 0, 1) := by decide +kernel
theorem dMO_centre_21 : decode cMO_centre 21 = .ok (.istore_n 2, 1) := by decide +kernel
theorem dMO_centre_22 : decode cMO_centre 22 = .ok (.iload_n 2, 1) := by decide +kernel
theorem dMO_centre_23 : decode cMO_centre 23 = .ok (.aload_n 0, 1) := by decide +kernel
theorem dMO_centre_24 : decode cMO_centre 24 = .ok (.getfield 28, 3) := by decide +kernel
theorem dMO_centre_27 : decode cMO_centre 27 = .ok (.iload_n 1, 1) := by decide +kernel
theorem dMO_centre_28 : decode cMO_centre 28 = .ok (.iaload, 1) := by decide +kernel
theorem dMO_centre_29 : decode cMO_centre 29 = .ok (.if_icmp .ge 59, 3) := by decide +kernel
theorem dMO_centre_32 : decode cMO_centre 32 = .ok (.aload_n 0, 1) := by decide +kernel
theorem dMO_centre_33 : decode cMO_centre 33 = .ok (.getfield 37, 3) := by decide +kernel
theorem dMO_centre_36 : decode cMO_centre 36 = .ok (.sipush 192, 3) := by decide +kernel
theorem dMO_centre_39 : decode cMO_centre 39 = .ok (.iload_n 1, 1) := by decide +kernel
theorem dMO_centre_40 : decode cMO_centre 40 = .ok (.imul, 1) := by decide +kernel
theorem dMO_centre_41 : decode cMO_centre 41 = .ok (.iload_n 2, 1) := by decide +kernel
theorem dMO_centre_42 : decode cMO_centre 42 = .ok (.iadd, 1) := by decide +kernel
theorem dMO_centre_43 : decode cMO_centre 43 = .ok (.iaload, 1) := by decide +kernel
theorem dMO_centre_44 : decode cMO_centre 44 = .ok (.iconst 1, 1) := by decide +kernel
theorem dMO_centre_45 : decode cMO_centre 45 = .ok (.if_icmp .le 6, 3) := by decide +kernel
theorem dMO_centre_48 : decode cMO_centre 48 = .ok (.goto 34, 3) := by decide +kernel
theorem dMO_centre_51 : decode cMO_centre 51 = .ok (.aload_n 0, 1) := by decide +kernel
theorem dMO_centre_52 : decode cMO_centre 52 = .ok (.getfield 31, 3) := by decide +kernel
theorem dMO_centre_55 : decode cMO_centre 55 = .ok (.aload_n 0, 1) := by decide +kernel
theorem dMO_centre_56 : decode cMO_centre 56 = .ok (.getfield 95, 3) := by decide +kernel
theorem dMO_centre_59 : decode cMO_centre 59 = .ok (.aload_n 0, 1) := by decide +kernel
theorem dMO_centre_60 : decode cMO_centre 60 = .ok (.getfield 25, 3) := by decide +kernel
theorem dMO_centre_63 : decode cMO_centre 63 = .ok (.sipush 192, 3) := by decide +kernel
theorem dMO_centre_66 : decode cMO_centre 66 = .ok (.iload_n 1, 1) := by decide +kernel
theorem dMO_centre_67 : decode cMO_centre 67 = .ok (.imul, 1) := by decide +kernel
theorem dMO_centre_68 : decode cMO_centre 68 = .ok (.iload_n 2, 1) := by decide +kernel
theorem dMO_centre_69 : decode cMO_centre 69 = .ok (.iadd, 1) := by decide +kernel
theorem dMO_centre_70 : decode cMO_centre 70 = .ok (.iaload, 1) := by decide +kernel
theorem dMO_centre_71 : decode cMO_centre 71 = .ok (.iastore, 1) := by decide +kernel
theorem dMO_centre_72 : decode cMO_centre 72 = .ok (.aload_n 0, 1) := by decide +kernel
theorem dMO_centre_73 : decode cMO_centre 73 = .ok (.dup, 1) := by decide +kernel
theorem dMO_centre_74 : decode cMO_centre 74 = .ok (.getfield 95, 3) := by decide +kernel
theorem dMO_centre_77 : decode cMO_centre 77 = .ok (.iconst 1, 1) := by decide +kernel
theorem dMO_centre_78 : decode cMO_centre 78 = .ok (.iadd, 1) := by decide +kernel
theorem dMO_centre_79 : decode cMO_centre 79 = .ok (.putfield 95, 3) := by decide +kernel
theorem dMO_centre_82 : decode cMO_centre 82 = .ok (.iinc 2 1, 3) := by decide +kernel
theorem dMO_centre_85 : decode cMO_centre 85 = .ok (.goto (-63), 3) := by decide +kernel
theorem dMO_centre_88 : decode cMO_centre 88 = .ok (.aload_n 0, 1) := by decide +kernel
theorem dMO_centre_89 : decode cMO_centre 89 = .ok (.invokevirtual 110, 3) := by decide +kernel
theorem dMO_centre_92 : decode cMO_centre 92 = .ok (.ireturn, 1) := by decide +kernel
theorem dMO_within_0 : decode cMO_within 0 = .ok (.aload_n 0, 1) := by decide +kernel
theorem dMO_within_1 : decode cMO_within 1 = .ok (.iload_n 1, 1) := by decide +kernel
theorem dMO_within_2 : decode cMO_within 2 = .ok (.invokevirtual 151, 3) := by decide +kernel
theorem dMO_within_5 : decode cMO_within 5 = .ok (.ifCond .eq 11, 3) := by decide +kernel
theorem dMO_within_8 : decode cMO_within 8 = .ok (.aload_n 0, 1) := by decide +kernel
theorem dMO_within_9 : decode cMO_within 9 = .ok (.iload_n 2, 1) := by decide +kernel
theorem dMO_within_10 : decode cMO_within 10 = .ok (.invokevirtual 151, 3) := by decide +kernel
theorem dMO_within_13 : decode cMO_within 13 = .ok (.ifCond .ne 5, 3) := by decide +kernel
theorem dMO_within_16 : decode cMO_within 16 = .ok (.iconst 0, 1) := by decide +kernel
theorem dMO_within_17 : decode cMO_within 17 = .ok (.ireturn, 1) := by decide +kernel
theorem dMO_within_18 : decode cMO_within 18 = .ok (.iconst 0, 1) := by decide +kernel
theorem dMO_within_19 : decode cMO_within 19 = .ok (.istore_n 3, 1) := by decide +kernel
theorem dMO_within_20 : decode cMO_within 20 = .ok (.iload_n 3, 1) := by decide +kernel
theorem dMO_within_21 : decode cMO_within 21 = .ok (.aload_n 0, 1) := by decide +kernel
theorem dMO_within_22 : decode cMO_within 22 = .ok (.getfield 28, 3) := by decide +kernel
theorem dMO_within_25 : decode cMO_within 25 = .ok (.iload_n 1, 1) := by decide +kernel
theorem dMO_within_26 : decode cMO_within 26 = .ok (.iaload, 1) := by decide +kernel
theorem dMO_within_27 : decode cMO_within 27 = .ok (.if_icmp .ge 32, 3) := by decide +kernel
theorem dMO_within_30 : decode cMO_within 30 = .ok (.aload_n 0, 1) := by decide +kernel
theorem dMO_within_31 : decode cMO_within 31 = .ok (.iload_n 2, 1) := by decide +kernel
theorem dMO_within_32 : decode cMO_within 32 = .ok (.aload_n 0, 1) := by decide +kernel
theorem dMO_within_33 : decode cMO_within 33 = .ok (.getfield 25, 3) := by decide +kernel
theorem dMO_within_36 : decode cMO_within 36 = .ok (.sipush 192, 3) := by decide +kernel
theorem dMO_within_39 : decode cMO_within 39 = .ok (.iload_n 1, 1) := by decide +kernel
theorem dMO_within_40 : decode cMO_within 40 = .ok (.imul, 1) := by decide +kernel
theorem dMO_within_41 : decode cMO_within 41 = .ok (.iload_n 3, 1) := by decide +kernel
theorem dMO_within_42 : decode cMO_within 42 = .ok (.iadd, 1) := by decide +kernel
theorem dMO_within_43 : decode cMO_within 43 = .ok (.iaload, 1) := by decide +kernel
theorem dMO_within_44 : decode cMO_within 44 = .ok (.invokevirtual 119, 3) := by decide +kernel
theorem dMO_within_47 : decode cMO_within 47 = .ok (.iconst (-1), 1) := by decide +kernel
theorem dMO_within_48 : decode cMO_within 48 = .ok (.if_icmp .ne 5, 3) := by decide +kernel
theorem dMO_within_51 : decode cMO_within 51 = .ok (.iconst 0, 1) := by decide +kernel
theorem dMO_within_52 : decode cMO_within 52 = .ok (.ireturn, 1) := by decide +kernel
theorem dMO_within_53 : decode cMO_within 53 = .ok (.iinc 3 1, 3) := by decide +kernel
theorem dMO_within_56 : decode cMO_within 56 = .ok (.goto (-36), 3) := by decide +kernel
theorem dMO_within_59 : decode cMO_within 59 = .ok (.iconst 1, 1) := by decide +kernel
theorem dMO_within_60 : decode cMO_within 60 = .ok (.ireturn, 1) := by decide +kernel
theorem dMO_orbit_0 : decode cMO_orbit 0 = .ok (.aload_n 0, 1) := by decide +kernel
theorem dMO_orbit_1 : decode cMO_orbit 1 = .ok (.iload_n 1, 1) := by decide +kernel
theorem dMO_orbit_2 : decode cMO_orbit 2 = .ok (.invokevirtual 151, 3) := by decide +kernel
theorem dMO_orbit_5 : decode cMO_orbit 5 = .ok (.ifCond .eq 14, 3) := by decide +kernel
theorem dMO_orbit_8 : decode cMO_orbit 8 = .ok (.iload_n 2, 1) := by decide +kernel
theorem dMO_orbit_9 : decode cMO_orbit 9 = .ok (.ifCond .lt 10, 3) := by decide +kernel
theorem dMO_orbit_12 : decode cMO_orbit 12 = .ok (.iload_n 2, 1) := by decide +kernel
theorem dMO_orbit_13 : decode cMO_orbit 13 = .ok (.sipush 13824, 3) := by decide +kernel
theorem dMO_orbit_16 : decode cMO_orbit 16 = .ok (.if_icmp .lt 5, 3) := by decide +kernel
theorem dMO_orbit_19 : decode cMO_orbit 19 = .ok (.iconst (-1), 1) := by decide +kernel
theorem dMO_orbit_20 : decode cMO_orbit 20 = .ok (.ireturn, 1) := by decide +kernel
theorem dMO_orbit_21 : decode cMO_orbit 21 = .ok (.iload_n 3, 1) := by decide +kernel
theorem dMO_orbit_22 : decode cMO_orbit 22 = .ok (.bipush (-2), 2) := by decide +kernel
theorem dMO_orbit_24 : decode cMO_orbit 24 = .ok (.if_icmp .ne 10, 3) := by decide +kernel
theorem dMO_orbit_27 : decode cMO_orbit 27 = .ok (.aload_n 0, 1) := by decide +kernel
theorem dMO_orbit_28 : decode cMO_orbit 28 = .ok (.iload_n 1, 1) := by decide +kernel
theorem dMO_orbit_29 : decode cMO_orbit 29 = .ok (.iload_n 2, 1) := by decide +kernel
theorem dMO_orbit_30 : decode cMO_orbit 30 = .ok (.invokevirtual 178, 3) := by decide +kernel
theorem dMO_orbit_33 : decode cMO_orbit 33 = .ok (.ireturn, 1) := by decide +kernel
theorem dMO_orbit_34 : decode cMO_orbit 34 = .ok (.iload_n 3, 1) := by decide +kernel
theorem dMO_orbit_35 : decode cMO_orbit 35 = .ok (.bipush (-3), 2) := by decide +kernel
theorem dMO_orbit_37 : decode cMO_orbit 37 = .ok (.if_icmp .ne 19, 3) := by decide +kernel
theorem dMO_orbit_40 : decode cMO_orbit 40 = .ok (.aload_n 0, 1) := by decide +kernel
theorem dMO_orbit_41 : decode cMO_orbit 41 = .ok (.aload_n 0, 1) := by decide +kernel
theorem dMO_orbit_42 : decode cMO_orbit 42 = .ok (.getfield 67, 3) := by decide +kernel
theorem dMO_orbit_45 : decode cMO_orbit 45 = .ok (.iconst 0, 1) := by decide +kernel
theorem dMO_orbit_46 : decode cMO_orbit 46 = .ok (.aload_n 0, 1) := by decide +kernel
theorem dMO_orbit_47 : decode cMO_orbit 47 = .ok (.iload_n 1, 1) := by decide +kernel
theorem dMO_orbit_48 : decode cMO_orbit 48 = .ok (.iload_n 2, 1) := by decide +kernel
theorem dMO_orbit_49 : decode cMO_orbit 49 = .ok (.invokevirtual 178, 3) := by decide +kernel
theorem dMO_orbit_52 : decode cMO_orbit 52 = .ok (.invokevirtual 164, 3) := by decide +kernel
theorem dMO_orbit_55 : decode cMO_orbit 55 = .ok (.ireturn, 1) := by decide +kernel
theorem dMO_orbit_56 : decode cMO_orbit 56 = .ok (.aload_n 0, 1) := by decide +kernel
theorem dMO_orbit_57 : decode cMO_orbit 57 = .ok (.iload_n 1, 1) := by decide +kernel
theorem dMO_orbit_58 : decode cMO_orbit 58 = .ok (.iload_n 2, 1) := by decide +kernel
theorem dMO_orbit_59 : decode cMO_orbit 59 = .ok (.invokevirtual 181, 3) := by decide +kernel
theorem dMO_orbit_62 : decode cMO_orbit 62 = .ok (.istore 4, 2) := by decide +kernel
theorem dMO_orbit_64 : decode cMO_orbit 64 = .ok (.iload_n 3, 1) := by decide +kernel
theorem dMO_orbit_65 : decode cMO_orbit 65 = .ok (.iconst (-1), 1) := by decide +kernel
theorem dMO_orbit_66 : decode cMO_orbit 66 = .ok (.if_icmp .ne 8, 3) := by decide +kernel
theorem dMO_orbit_69 : decode cMO_orbit 69 = .ok (.iload 4, 2) := by decide +kernel
theorem dMO_orbit_71 : decode cMO_orbit 71 = .ok (.goto 23, 3) := by decide +kernel
theorem dMO_orbit_74 : decode cMO_orbit 74 = .ok (.iload_n 3, 1) := by decide +kernel
theorem dMO_orbit_75 : decode cMO_orbit 75 = .ok (.ifCond .lt 18, 3) := by decide +kernel
theorem dMO_orbit_78 : decode cMO_orbit 78 = .ok (.iload_n 3, 1) := by decide +kernel
theorem dMO_orbit_79 : decode cMO_orbit 79 = .ok (.iload 4, 2) := by decide +kernel
theorem dMO_orbit_81 : decode cMO_orbit 81 = .ok (.if_icmp .ge 12, 3) := by decide +kernel
theorem dMO_orbit_84 : decode cMO_orbit 84 = .ok (.aload_n 0, 1) := by decide +kernel
theorem dMO_orbit_85 : decode cMO_orbit 85 = .ok (.getfield 61, 3) := by decide +kernel
theorem dMO_orbit_88 : decode cMO_orbit 88 = .ok (.iload_n 3, 1) := by decide +kernel
theorem dMO_orbit_89 : decode cMO_orbit 89 = .ok (.iaload, 1) := by decide +kernel
theorem dMO_orbit_90 : decode cMO_orbit 90 = .ok (.goto 4, 3) := by decide +kernel
theorem dMO_orbit_93 : decode cMO_orbit 93 = .ok (.iconst (-1), 1) := by decide +kernel
theorem dMO_orbit_94 : decode cMO_orbit 94 = .ok (.ireturn, 1) := by decide +kernel
theorem dMO_keepersOf_0 : decode cMO_keepersOf 0 = .ok (.iconst 0, 1) := by decide +kernel
theorem dMO_keepersOf_1 : decode cMO_keepersOf 1 = .ok (.istore_n 3, 1) := by decide +kernel
theorem dMO_keepersOf_2 : decode cMO_keepersOf 2 = .ok (.iconst 0, 1) := by decide +kernel
theorem dMO_keepersOf_3 : decode cMO_keepersOf 3 = .ok (.istore 4, 2) := by decide +kernel
theorem dMO_keepersOf_5 : decode cMO_keepersOf 5 = .ok (.iload 4, 2) := by decide +kernel
theorem dMO_keepersOf_7 : decode cMO_keepersOf 7 = .ok (.aload_n 0, 1) := by decide +kernel
theorem dMO_keepersOf_8 : decode cMO_keepersOf 8 = .ok (.getfield 28, 3) := by decide +kernel
theorem dMO_keepersOf_11 : decode cMO_keepersOf 11 = .ok (.iload_n 1, 1) := by decide +kernel
theorem dMO_keepersOf_12 : decode cMO_keepersOf 12 = .ok (.iaload, 1) := by decide +kernel
theorem dMO_keepersOf_13 : decode cMO_keepersOf 13 = .ok (.if_icmp .ge 56, 3) := by decide +kernel
theorem dMO_keepersOf_16 : decode cMO_keepersOf 16 = .ok (.aload_n 0, 1) := by decide +kernel
theorem dMO_keepersOf_17 : decode cMO_keepersOf 17 = .ok (.aload_n 0, 1) := by decide +kernel
theorem dMO_keepersOf_18 : decode cMO_keepersOf 18 = .ok (.getfield 25, 3) := by decide +kernel
theorem dMO_keepersOf_21 : decode cMO_keepersOf 21 = .ok (.sipush 192, 3) := by decide +kernel
theorem dMO_keepersOf_24 : decode cMO_keepersOf 24 = .ok (.iload_n 1, 1) := by decide +kernel
theorem dMO_keepersOf_25 : decode cMO_keepersOf 25 = .ok (.imul, 1) := by decide +kernel
theorem dMO_keepersOf_26 : decode cMO_keepersOf 26 = .ok (.iload 4, 2) := by decide +kernel
theorem dMO_keepersOf_28 : decode cMO_keepersOf 28 = .ok (.iadd, 1) := by decide +kernel
theorem dMO_keepersOf_29 : decode cMO_keepersOf 29 = .ok (.iaload, 1) := by decide +kernel
theorem dMO_keepersOf_30 : decode cMO_keepersOf 30 = .ok (.iload_n 2, 1) := by decide +kernel
theorem dMO_keepersOf_31 : decode cMO_keepersOf 31 = .ok (.invokevirtual 175, 3) := by decide +kernel
theorem dMO_keepersOf_34 : decode cMO_keepersOf 34 = .ok (.iload_n 2, 1) := by decide +kernel
theorem dMO_keepersOf_35 : decode cMO_keepersOf 35 = .ok (.if_icmp .eq 6, 3) := by decide +kernel
theorem dMO_keepersOf_38 : decode cMO_keepersOf 38 = .ok (.goto 25, 3) := by decide +kernel
theorem dMO_keepersOf_41 : decode cMO_keepersOf 41 = .ok (.aload_n 0, 1) := by decide +kernel
theorem dMO_keepersOf_42 : decode cMO_keepersOf 42 = .ok (.getfield 67, 3) := by decide +kernel
theorem dMO_keepersOf_45 : decode cMO_keepersOf 45 = .ok (.iload_n 3, 1) := by decide +kernel
theorem dMO_keepersOf_46 : decode cMO_keepersOf 46 = .ok (.aload_n 0, 1) := by decide +kernel
theorem dMO_keepersOf_47 : decode cMO_keepersOf 47 = .ok (.getfield 25, 3) := by decide +kernel
theorem dMO_keepersOf_50 : decode cMO_keepersOf 50 = .ok (.sipush 192, 3) := by decide +kernel
theorem dMO_keepersOf_53 : decode cMO_keepersOf 53 = .ok (.iload_n 1, 1) := by decide +kernel
theorem dMO_keepersOf_54 : decode cMO_keepersOf 54 = .ok (.imul, 1) := by decide +kernel
theorem dMO_keepersOf_55 : decode cMO_keepersOf 55 = .ok (.iload 4, 2) := by decide +kernel
theorem dMO_keepersOf_57 : decode cMO_keepersOf 57 = .ok (.iadd, 1) := by decide +kernel
theorem dMO_keepersOf_58 : decode cMO_keepersOf 58 = .ok (.iaload, 1) := by decide +kernel
theorem dMO_keepersOf_59 : decode cMO_keepersOf 59 = .ok (.iastore, 1) := by decide +kernel
theorem dMO_keepersOf_60 : decode cMO_keepersOf 60 = .ok (.iinc 3 1, 3) := by decide +kernel
theorem dMO_keepersOf_63 : decode cMO_keepersOf 63 = .ok (.iinc 4 1, 3) := by decide +kernel
theorem dMO_keepersOf_66 : decode cMO_keepersOf 66 = .ok (.goto (-61), 3) := by decide +kernel
theorem dMO_keepersOf_69 : decode cMO_keepersOf 69 = .ok (.iload_n 3, 1) := by decide +kernel
theorem dMO_keepersOf_70 : decode cMO_keepersOf 70 = .ok (.ireturn, 1) := by decide +kernel
theorem dMO_taken_0 : decode cMO_taken 0 = .ok (.iload_n 1, 1) := by decide +kernel
theorem dMO_taken_1 : decode cMO_taken 1 = .ok (.aload_n 0, 1) := by decide +kernel
theorem dMO_taken_2 : decode cMO_taken 2 = .ok (.getfield 7, 3) := by decide +kernel
theorem dMO_taken_5 : decode cMO_taken 5 = .ok (.aload_n 0, 1) := by decide +kernel
theorem dMO_taken_6 : decode cMO_taken 6 = .ok (.getfield 13, 3) := by decide +kernel
theorem dMO_taken_9 : decode cMO_taken 9 = .ok (.invokestatic 76, 3) := by decide +kernel
theorem dMO_taken_12 : decode cMO_taken 12 = .ok (.iload_n 2, 1) := by decide +kernel
theorem dMO_taken_13 : decode cMO_taken 13 = .ok (.sipush 576, 3) := by decide +kernel
theorem dMO_taken_16 : decode cMO_taken 16 = .ok (.idiv, 1) := by decide +kernel
theorem dMO_taken_17 : decode cMO_taken 17 = .ok (.istore_n 3, 1) := by decide +kernel
theorem dMO_taken_18 : decode cMO_taken 18 = .ok (.iload_n 2, 1) := by decide +kernel
theorem dMO_taken_19 : decode cMO_taken 19 = .ok (.bipush 24, 2) := by decide +kernel
theorem dMO_taken_21 : decode cMO_taken 21 = .ok (.idiv, 1) := by decide +kernel
theorem dMO_taken_22 : decode cMO_taken 22 = .ok (.bipush 24, 2) := by decide +kernel
theorem dMO_taken_24 : decode cMO_taken 24 = .ok (.irem, 1) := by decide +kernel
theorem dMO_taken_25 : decode cMO_taken 25 = .ok (.istore 4, 2) := by decide +kernel
theorem dMO_taken_27 : decode cMO_taken 27 = .ok (.iload_n 2, 1) := by decide +kernel
theorem dMO_taken_28 : decode cMO_taken 28 = .ok (.bipush 24, 2) := by decide +kernel
theorem dMO_taken_30 : decode cMO_taken 30 = .ok (.irem, 1) := by decide +kernel
theorem dMO_taken_31 : decode cMO_taken 31 = .ok (.istore 5, 2) := by decide +kernel
theorem dMO_taken_33 : decode cMO_taken 33 = .ok (.iconst 0, 1) := by decide +kernel
theorem dMO_taken_34 : decode cMO_taken 34 = .ok (.istore 6, 2) := by decide +kernel
theorem dMO_taken_36 : decode cMO_taken 36 = .ok (.iconst 0, 1) := by decide +kernel
theorem dMO_taken_37 : decode cMO_taken 37 = .ok (.istore 7, 2) := by decide +kernel
theorem dMO_taken_39 : decode cMO_taken 39 = .ok (.iload 7, 2) := by decide +kernel
theorem dMO_taken_41 : decode cMO_taken 41 = .ok (.iconst 3, 1) := by decide +kernel
theorem dMO_taken_42 : decode cMO_taken 42 = .ok (.if_icmp .ge 79, 3) := by decide +kernel
theorem dMO_taken_45 : decode cMO_taken 45 = .ok (.aload_n 0, 1) := by decide +kernel
theorem dMO_taken_46 : decode cMO_taken 46 = .ok (.getfield 7, 3) := by decide +kernel
theorem dMO_taken_49 : decode cMO_taken 49 = .ok (.iconst 3, 1) := by decide +kernel
theorem dMO_taken_50 : decode cMO_taken 50 = .ok (.iload 7, 2) := by decide +kernel
theorem dMO_taken_52 : decode cMO_taken 52 = .ok (.imul, 1) := by decide +kernel
theorem dMO_taken_53 : decode cMO_taken 53 = .ok (.iaload, 1) := by decide +kernel
theorem dMO_taken_54 : decode cMO_taken 54 = .ok (.iload_n 3, 1) := by decide +kernel
theorem dMO_taken_55 : decode cMO_taken 55 = .ok (.imul, 1) := by decide +kernel
theorem dMO_taken_56 : decode cMO_taken 56 = .ok (.aload_n 0, 1) := by decide +kernel
theorem dMO_taken_57 : decode cMO_taken 57 = .ok (.getfield 7, 3) := by decide +kernel
theorem dMO_taken_60 : decode cMO_taken 60 = .ok (.iconst 3, 1) := by decide +kernel
theorem dMO_taken_61 : decode cMO_taken 61 = .ok (.iload 7, 2) := by decide +kernel
theorem dMO_taken_63 : decode cMO_taken 63 = .ok (.imul, 1) := by decide +kernel
theorem dMO_taken_64 : decode cMO_taken 64 = .ok (.iconst 1, 1) := by decide +kernel
theorem dMO_taken_65 : decode cMO_taken 65 = .ok (.iadd, 1) := by decide +kernel
theorem dMO_taken_66 : decode cMO_taken 66 = .ok (.iaload, 1) := by decide +kernel
theorem dMO_taken_67 : decode cMO_taken 67 = .ok (.iload 4, 2) := by decide +kernel
theorem dMO_taken_69 : decode cMO_taken 69 = .ok (.imul, 1) := by decide +kernel
theorem dMO_taken_70 : decode cMO_taken 70 = .ok (.iadd, 1) := by decide +kernel
theorem dMO_taken_71 : decode cMO_taken 71 = .ok (.aload_n 0, 1) := by decide +kernel
theorem dMO_taken_72 : decode cMO_taken 72 = .ok (.getfield 7, 3) := by decide +kernel
theorem dMO_taken_75 : decode cMO_taken 75 = .ok (.iconst 3, 1) := by decide +kernel
theorem dMO_taken_76 : decode cMO_taken 76 = .ok (.iload 7, 2) := by decide +kernel
theorem dMO_taken_78 : decode cMO_taken 78 = .ok (.imul, 1) := by decide +kernel
theorem dMO_taken_79 : decode cMO_taken 79 = .ok (.iconst 2, 1) := by decide +kernel
theorem dMO_taken_80 : decode cMO_taken 80 = .ok (.iadd, 1) := by decide +kernel
theorem dMO_taken_81 : decode cMO_taken 81 = .ok (.iaload, 1) := by decide +kernel
theorem dMO_taken_82 : decode cMO_taken 82 = .ok (.iload 5, 2) := by decide +kernel
theorem dMO_taken_84 : decode cMO_taken 84 = .ok (.imul, 1) := by decide +kernel
theorem dMO_taken_85 : decode cMO_taken 85 = .ok (.iadd, 1) := by decide +kernel
theorem dMO_taken_86 : decode cMO_taken 86 = .ok (.aload_n 0, 1) := by decide +kernel
theorem dMO_taken_87 : decode cMO_taken 87 = .ok (.getfield 13, 3) := by decide +kernel
theorem dMO_taken_90 : decode cMO_taken 90 = .ok (.iload 7, 2) := by decide +kernel
theorem dMO_taken_92 : decode cMO_taken 92 = .ok (.iaload, 1) := by decide +kernel
theorem dMO_taken_93 : decode cMO_taken 93 = .ok (.iadd, 1) := by decide +kernel
theorem dMO_taken_94 : decode cMO_taken 94 = .ok (.istore 8, 2) := by decide +kernel
theorem dMO_taken_96 : decode cMO_taken 96 = .ok (.bipush 24, 2) := by decide +kernel
theorem dMO_taken_98 : decode cMO_taken 98 = .ok (.iload 6, 2) := by decide +kernel
theorem dMO_taken_100 : decode cMO_taken 100 = .ok (.imul, 1) := by decide +kernel
theorem dMO_taken_101 : decode cMO_taken 101 = .ok (.iload 8, 2) := by decide +kernel
theorem dMO_taken_103 : decode cMO_taken 103 = .ok (.bipush 24, 2) := by decide +kernel
theorem dMO_taken_105 : decode cMO_taken 105 = .ok (.irem, 1) := by decide +kernel
theorem dMO_taken_106 : decode cMO_taken 106 = .ok (.bipush 24, 2) := by decide +kernel
theorem dMO_taken_108 : decode cMO_taken 108 = .ok (.iadd, 1) := by decide +kernel
theorem dMO_taken_109 : decode cMO_taken 109 = .ok (.bipush 24, 2) := by decide +kernel
theorem dMO_taken_111 : decode cMO_taken 111 = .ok (.irem, 1) := by decide +kernel
theorem dMO_taken_112 : decode cMO_taken 112 = .ok (.iadd, 1) := by decide +kernel
theorem dMO_taken_113 : decode cMO_taken 113 = .ok (.istore 6, 2) := by decide +kernel
theorem dMO_taken_115 : decode cMO_taken 115 = .ok (.iinc 7 1, 3) := by decide +kernel
theorem dMO_taken_118 : decode cMO_taken 118 = .ok (.goto (-79), 3) := by decide +kernel
theorem dMO_taken_121 : decode cMO_taken 121 = .ok (.iload 6, 2) := by decide +kernel
theorem dMO_taken_123 : decode cMO_taken 123 = .ok (.ireturn, 1) := by decide +kernel
theorem dMO_orbitOf_0 : decode cMO_orbitOf 0 = .ok (.iconst 0, 1) := by decide +kernel
theorem dMO_orbitOf_1 : decode cMO_orbitOf 1 = .ok (.istore_n 3, 1) := by decide +kernel
theorem dMO_orbitOf_2 : decode cMO_orbitOf 2 = .ok (.iconst 0, 1) := by decide +kernel
theorem dMO_orbitOf_3 : decode cMO_orbitOf 3 = .ok (.istore 4, 2) := by decide +kernel
theorem dMO_orbitOf_5 : decode cMO_orbitOf 5 = .ok (.iload 4, 2) := by decide +kernel
theorem dMO_orbitOf_7 : decode cMO_orbitOf 7 = .ok (.aload_n 0, 1) := by decide +kernel
theorem dMO_orbitOf_8 : decode cMO_orbitOf 8 = .ok (.getfield 28, 3) := by decide +kernel
theorem dMO_orbitOf_11 : decode cMO_orbitOf 11 = .ok (.iload_n 1, 1) := by decide +kernel
theorem dMO_orbitOf_12 : decode cMO_orbitOf 12 = .ok (.iaload, 1) := by decide +kernel
theorem dMO_orbitOf_13 : decode cMO_orbitOf 13 = .ok (.if_icmp .ge 123, 3) := by decide +kernel
theorem dMO_orbitOf_16 : decode cMO_orbitOf 16 = .ok (.aload_n 0, 1) := by decide +kernel
theorem dMO_orbitOf_17 : decode cMO_orbitOf 17 = .ok (.aload_n 0, 1) := by decide +kernel
theorem dMO_orbitOf_18 : decode cMO_orbitOf 18 = .ok (.getfield 25, 3) := by decide +kernel
theorem dMO_orbitOf_21 : decode cMO_orbitOf 21 = .ok (.sipush 192, 3) := by decide +kernel
theorem dMO_orbitOf_24 : decode cMO_orbitOf 24 = .ok (.iload_n 1, 1) := by decide +kernel
theorem dMO_orbitOf_25 : decode cMO_orbitOf 25 = .ok (.imul, 1) := by decide +kernel
theorem dMO_orbitOf_26 : decode cMO_orbitOf 26 = .ok (.iload 4, 2) := by decide +kernel
theorem dMO_orbitOf_28 : decode cMO_orbitOf 28 = .ok (.iadd, 1) := by decide +kernel
theorem dMO_orbitOf_29 : decode cMO_orbitOf 29 = .ok (.iaload, 1) := by decide +kernel
theorem dMO_orbitOf_30 : decode cMO_orbitOf 30 = .ok (.iload_n 2, 1) := by decide +kernel
theorem dMO_orbitOf_31 : decode cMO_orbitOf 31 = .ok (.invokevirtual 175, 3) := by decide +kernel
theorem dMO_orbitOf_34 : decode cMO_orbitOf 34 = .ok (.istore 5, 2) := by decide +kernel
theorem dMO_orbitOf_36 : decode cMO_orbitOf 36 = .ok (.iload_n 3, 1) := by decide +kernel
theorem dMO_orbitOf_37 : decode cMO_orbitOf 37 = .ok (.istore 6, 2) := by decide +kernel
theorem dMO_orbitOf_39 : decode cMO_orbitOf 39 = .ok (.iload 6, 2) := by decide +kernel
theorem dMO_orbitOf_41 : decode cMO_orbitOf 41 = .ok (.ifCond .le 23, 3) := by decide +kernel
theorem dMO_orbitOf_44 : decode cMO_orbitOf 44 = .ok (.aload_n 0, 1) := by decide +kernel
theorem dMO_orbitOf_45 : decode cMO_orbitOf 45 = .ok (.getfield 61, 3) := by decide +kernel
theorem dMO_orbitOf_48 : decode cMO_orbitOf 48 = .ok (.iload 6, 2) := by decide +kernel
theorem dMO_orbitOf_50 : decode cMO_orbitOf 50 = .ok (.iconst 1, 1) := by decide +kernel
theorem dMO_orbitOf_51 : decode cMO_orbitOf 51 = .ok (.isub, 1) := by decide +kernel
theorem dMO_orbitOf_52 : decode cMO_orbitOf 52 = .ok (.iaload, 1) := by decide +kernel
theorem dMO_orbitOf_53 : decode cMO_orbitOf 53 = .ok (.iload 5, 2) := by decide +kernel
theorem dMO_orbitOf_55 : decode cMO_orbitOf 55 = .ok (.if_icmp .le 9, 3) := by decide +kernel
theorem dMO_orbitOf_58 : decode cMO_orbitOf 58 = .ok (.iinc 6 (-1), 3) := by decide +kernel
theorem dMO_orbitOf_61 : decode cMO_orbitOf 61 = .ok (.goto (-22), 3) := by decide +kernel
theorem dMO_orbitOf_64 : decode cMO_orbitOf 64 = .ok (.iload 6, 2) := by decide +kernel
theorem dMO_orbitOf_66 : decode cMO_orbitOf 66 = .ok (.ifCond .le 20, 3) := by decide +kernel
theorem dMO_orbitOf_69 : decode cMO_orbitOf 69 = .ok (.aload_n 0, 1) := by decide +kernel
theorem dMO_orbitOf_70 : decode cMO_orbitOf 70 = .ok (.getfield 61, 3) := by decide +kernel
theorem dMO_orbitOf_73 : decode cMO_orbitOf 73 = .ok (.iload 6, 2) := by decide +kernel
theorem dMO_orbitOf_75 : decode cMO_orbitOf 75 = .ok (.iconst 1, 1) := by decide +kernel
theorem dMO_orbitOf_76 : decode cMO_orbitOf 76 = .ok (.isub, 1) := by decide +kernel
theorem dMO_orbitOf_77 : decode cMO_orbitOf 77 = .ok (.iaload, 1) := by decide +kernel
theorem dMO_orbitOf_78 : decode cMO_orbitOf 78 = .ok (.iload 5, 2) := by decide +kernel
theorem dMO_orbitOf_80 : decode cMO_orbitOf 80 = .ok (.if_icmp .ne 6, 3) := by decide +kernel
theorem dMO_orbitOf_83 : decode cMO_orbitOf 83 = .ok (.goto 47, 3) := by decide +kernel
theorem dMO_orbitOf_86 : decode cMO_orbitOf 86 = .ok (.iload_n 3, 1) := by decide +kernel
theorem dMO_orbitOf_87 : decode cMO_orbitOf 87 = .ok (.istore 7, 2) := by decide +kernel
theorem dMO_orbitOf_89 : decode cMO_orbitOf 89 = .ok (.iload 7, 2) := by decide +kernel
theorem dMO_orbitOf_91 : decode cMO_orbitOf 91 = .ok (.iload 6, 2) := by decide +kernel
theorem dMO_orbitOf_93 : decode cMO_orbitOf 93 = .ok (.if_icmp .le 25, 3) := by decide +kernel
theorem dMO_orbitOf_96 : decode cMO_orbitOf 96 = .ok (.aload_n 0, 1) := by decide +kernel
theorem dMO_orbitOf_97 : decode cMO_orbitOf 97 = .ok (.getfield 61, 3) := by decide +kernel
theorem dMO_orbitOf_100 : decode cMO_orbitOf 100 = .ok (.iload 7, 2) := by decide +kernel
theorem dMO_orbitOf_102 : decode cMO_orbitOf 102 = .ok (.aload_n 0, 1) := by decide +kernel
theorem dMO_orbitOf_103 : decode cMO_orbitOf 103 = .ok (.getfield 61, 3) := by decide +kernel
theorem dMO_orbitOf_106 : decode cMO_orbitOf 106 = .ok (.iload 7, 2) := by decide +kernel
theorem dMO_orbitOf_108 : decode cMO_orbitOf 108 = .ok (.iconst 1, 1) := by decide +kernel
theorem dMO_orbitOf_109 : decode cMO_orbitOf 109 = .ok (.isub, 1) := by decide +kernel
theorem dMO_orbitOf_110 : decode cMO_orbitOf 110 = .ok (.iaload, 1) := by decide +kernel
theorem dMO_orbitOf_111 : decode cMO_orbitOf 111 = .ok (.iastore, 1) := by decide +kernel
theorem dMO_orbitOf_112 : decode cMO_orbitOf 112 = .ok (.iinc 7 (-1), 3) := by decide +kernel
theorem dMO_orbitOf_115 : decode cMO_orbitOf 115 = .ok (.goto (-26), 3) := by decide +kernel
theorem dMO_orbitOf_118 : decode cMO_orbitOf 118 = .ok (.aload_n 0, 1) := by decide +kernel
theorem dMO_orbitOf_119 : decode cMO_orbitOf 119 = .ok (.getfield 61, 3) := by decide +kernel
theorem dMO_orbitOf_122 : decode cMO_orbitOf 122 = .ok (.iload 6, 2) := by decide +kernel
theorem dMO_orbitOf_124 : decode cMO_orbitOf 124 = .ok (.iload 5, 2) := by decide +kernel
theorem dMO_orbitOf_126 : decode cMO_orbitOf 126 = .ok (.iastore, 1) := by decide +kernel
theorem dMO_orbitOf_127 : decode cMO_orbitOf 127 = .ok (.iinc 3 1, 3) := by decide +kernel
theorem dMO_orbitOf_130 : decode cMO_orbitOf 130 = .ok (.iinc 4 1, 3) := by decide +kernel
theorem dMO_orbitOf_133 : decode cMO_orbitOf 133 = .ok (.goto (-128), 3) := by decide +kernel
theorem dMO_orbitOf_136 : decode cMO_orbitOf 136 = .ok (.iload_n 3, 1) := by decide +kernel
theorem dMO_orbitOf_137 : decode cMO_orbitOf 137 = .ok (.ireturn, 1) := by decide +kernel
theorem dMO_keepers_0 : decode cMO_keepers 0 = .ok (.aload_n 0, 1) := by decide +kernel
theorem dMO_keepers_1 : decode cMO_keepers 1 = .ok (.iload_n 1, 1) := by decide +kernel
theorem dMO_keepers_2 : decode cMO_keepers 2 = .ok (.invokevirtual 151, 3) := by decide +kernel
theorem dMO_keepers_5 : decode cMO_keepers 5 = .ok (.ifCond .eq 14, 3) := by decide +kernel
theorem dMO_keepers_8 : decode cMO_keepers 8 = .ok (.iload_n 2, 1) := by decide +kernel
theorem dMO_keepers_9 : decode cMO_keepers 9 = .ok (.ifCond .lt 10, 3) := by decide +kernel
theorem dMO_keepers_12 : decode cMO_keepers 12 = .ok (.iload_n 2, 1) := by decide +kernel
theorem dMO_keepers_13 : decode cMO_keepers 13 = .ok (.sipush 13824, 3) := by decide +kernel
theorem dMO_keepers_16 : decode cMO_keepers 16 = .ok (.if_icmp .lt 5, 3) := by decide +kernel
theorem dMO_keepers_19 : decode cMO_keepers 19 = .ok (.iconst (-1), 1) := by decide +kernel
theorem dMO_keepers_20 : decode cMO_keepers 20 = .ok (.ireturn, 1) := by decide +kernel
theorem dMO_keepers_21 : decode cMO_keepers 21 = .ok (.aload_n 0, 1) := by decide +kernel
theorem dMO_keepers_22 : decode cMO_keepers 22 = .ok (.aload_n 0, 1) := by decide +kernel
theorem dMO_keepers_23 : decode cMO_keepers 23 = .ok (.iload_n 1, 1) := by decide +kernel
theorem dMO_keepers_24 : decode cMO_keepers 24 = .ok (.iload_n 2, 1) := by decide +kernel
theorem dMO_keepers_25 : decode cMO_keepers 25 = .ok (.invokevirtual 178, 3) := by decide +kernel
theorem dMO_keepers_28 : decode cMO_keepers 28 = .ok (.putfield 95, 3) := by decide +kernel
theorem dMO_keepers_31 : decode cMO_keepers 31 = .ok (.iconst 0, 1) := by decide +kernel
theorem dMO_keepers_32 : decode cMO_keepers 32 = .ok (.istore_n 3, 1) := by decide +kernel
theorem dMO_keepers_33 : decode cMO_keepers 33 = .ok (.iload_n 3, 1) := by decide +kernel
theorem dMO_keepers_34 : decode cMO_keepers 34 = .ok (.aload_n 0, 1) := by decide +kernel
theorem dMO_keepers_35 : decode cMO_keepers 35 = .ok (.getfield 95, 3) := by decide +kernel
theorem dMO_keepers_38 : decode cMO_keepers 38 = .ok (.if_icmp .ge 21, 3) := by decide +kernel
theorem dMO_keepers_41 : decode cMO_keepers 41 = .ok (.aload_n 0, 1) := by decide +kernel
theorem dMO_keepers_42 : decode cMO_keepers 42 = .ok (.getfield 31, 3) := by decide +kernel
theorem dMO_keepers_45 : decode cMO_keepers 45 = .ok (.iload_n 3, 1) := by decide +kernel
theorem dMO_keepers_46 : decode cMO_keepers 46 = .ok (.aload_n 0, 1) := by decide +kernel
theorem dMO_keepers_47 : decode cMO_keepers 47 = .ok (.getfield 67, 3) := by decide +kernel
theorem dMO_keepers_50 : decode cMO_keepers 50 = .ok (.iload_n 3, 1) := by decide +kernel
theorem dMO_keepers_51 : decode cMO_keepers 51 = .ok (.iaload, 1) := by decide +kernel
theorem dMO_keepers_52 : decode cMO_keepers 52 = .ok (.iastore, 1) := by decide +kernel
theorem dMO_keepers_53 : decode cMO_keepers 53 = .ok (.iinc 3 1, 3) := by decide +kernel
theorem dMO_keepers_56 : decode cMO_keepers 56 = .ok (.goto (-23), 3) := by decide +kernel
theorem dMO_keepers_59 : decode cMO_keepers 59 = .ok (.aload_n 0, 1) := by decide +kernel
theorem dMO_keepers_60 : decode cMO_keepers 60 = .ok (.invokevirtual 110, 3) := by decide +kernel
theorem dMO_keepers_63 : decode cMO_keepers 63 = .ok (.ireturn, 1) := by decide +kernel
