/-! decode rows: written by wip/whole/names.py -/
theorem dMO_numbered_231 : decode cMO_numbered 231 = .ok (.iconst 1, 1) := by decide +kernel
theorem dMO_numbered_232 : decode cMO_numbered 232 = .ok (.isub, 1) := by decide +kernel
theorem dMO_numbered_233 : decode cMO_numbered 233 = .ok (.ireturn, 1) := by decide +kernel
theorem dMO_about_0 : decode cMO_about 0 = .ok (.aload_n 0, 1) := by decide +kernel
theorem dMO_about_1 : decode cMO_about 1 = .ok (.iload_n 1, 1) := by decide +kernel
theorem dMO_about_2 : decode cMO_about 2 = .ok (.invokevirtual 151, 3) := by decide +kernel
theorem dMO_about_5 : decode cMO_about 5 = .ok (.ifCond .ne 5, 3) := by decide +kernel
theorem dMO_about_8 : decode cMO_about 8 = .ok (.iconst (-1), 1) := by decide +kernel
theorem dMO_about_9 : decode cMO_about 9 = .ok (.ireturn, 1) := by decide +kernel
theorem dMO_about_10 : decode cMO_about 10 = .ok (.iload_n 2, 1) := by decide +kernel
theorem dMO_about_11 : decode cMO_about 11 = .ok (.tableswitch 115 0 6 #[41, 48, 54, 60, 71, 91, 103], 41) := by decide +kernel
theorem dMO_about_52 : decode cMO_about 52 = .ok (.aload_n 0, 1) := by decide +kernel
theorem dMO_about_53 : decode cMO_about 53 = .ok (.getfield 28, 3) := by decide +kernel
theorem dMO_about_56 : decode cMO_about 56 = .ok (.iload_n 1, 1) := by decide +kernel
theorem dMO_about_57 : decode cMO_about 57 = .ok (.iaload, 1) := by decide +kernel
theorem dMO_about_58 : decode cMO_about 58 = .ok (.ireturn, 1) := by decide +kernel
theorem dMO_about_59 : decode cMO_about 59 = .ok (.aload_n 0, 1) := by decide +kernel
theorem dMO_about_60 : decode cMO_about 60 = .ok (.iload_n 1, 1) := by decide +kernel
theorem dMO_about_61 : decode cMO_about 61 = .ok (.invokevirtual 154, 3) := by decide +kernel
theorem dMO_about_64 : decode cMO_about 64 = .ok (.ireturn, 1) := by decide +kernel
theorem dMO_about_65 : decode cMO_about 65 = .ok (.aload_n 0, 1) := by decide +kernel
theorem dMO_about_66 : decode cMO_about 66 = .ok (.iload_n 1, 1) := by decide +kernel
theorem dMO_about_67 : decode cMO_about 67 = .ok (.invokevirtual 158, 3) := by decide +kernel
theorem dMO_about_70 : decode cMO_about 70 = .ok (.ireturn, 1) := by decide +kernel
theorem dMO_about_71 : decode cMO_about 71 = .ok (.aload_n 0, 1) := by decide +kernel
theorem dMO_about_72 : decode cMO_about 72 = .ok (.iload_n 1, 1) := by decide +kernel
theorem dMO_about_73 : decode cMO_about 73 = .ok (.aload_n 0, 1) := by decide +kernel
theorem dMO_about_74 : decode cMO_about 74 = .ok (.iload_n 1, 1) := by decide +kernel
theorem dMO_about_75 : decode cMO_about 75 = .ok (.invokevirtual 158, 3) := by decide +kernel
theorem dMO_about_78 : decode cMO_about 78 = .ok (.invokevirtual 161, 3) := by decide +kernel
theorem dMO_about_81 : decode cMO_about 81 = .ok (.ireturn, 1) := by decide +kernel
theorem dMO_about_82 : decode cMO_about 82 = .ok (.aload_n 0, 1) := by decide +kernel
theorem dMO_about_83 : decode cMO_about 83 = .ok (.aload_n 0, 1) := by decide +kernel
theorem dMO_about_84 : decode cMO_about 84 = .ok (.getfield 25, 3) := by decide +kernel
theorem dMO_about_87 : decode cMO_about 87 = .ok (.sipush 192, 3) := by decide +kernel
theorem dMO_about_90 : decode cMO_about 90 = .ok (.iload_n 1, 1) := by decide +kernel
theorem dMO_about_91 : decode cMO_about 91 = .ok (.imul, 1) := by decide +kernel
theorem dMO_about_92 : decode cMO_about 92 = .ok (.aload_n 0, 1) := by decide +kernel
theorem dMO_about_93 : decode cMO_about 93 = .ok (.getfield 28, 3) := by decide +kernel
theorem dMO_about_96 : decode cMO_about 96 = .ok (.iload_n 1, 1) := by decide +kernel
theorem dMO_about_97 : decode cMO_about 97 = .ok (.iaload, 1) := by decide +kernel
theorem dMO_about_98 : decode cMO_about 98 = .ok (.invokevirtual 164, 3) := by decide +kernel
theorem dMO_about_101 : decode cMO_about 101 = .ok (.ireturn, 1) := by decide +kernel
theorem dMO_about_102 : decode cMO_about 102 = .ok (.aload_n 0, 1) := by decide +kernel
theorem dMO_about_103 : decode cMO_about 103 = .ok (.iload_n 1, 1) := by decide +kernel
theorem dMO_about_104 : decode cMO_about 104 = .ok (.invokevirtual 168, 3) := by decide +kernel
theorem dMO_about_107 : decode cMO_about 107 = .ok (.aload_n 0, 1) := by decide +kernel
theorem dMO_about_108 : decode cMO_about 108 = .ok (.getfield 34, 3) := by decide +kernel
theorem dMO_about_111 : decode cMO_about 111 = .ok (.iload_n 1, 1) := by decide +kernel
theorem dMO_about_112 : decode cMO_about 112 = .ok (.iaload, 1) := by decide +kernel
theorem dMO_about_113 : decode cMO_about 113 = .ok (.ireturn, 1) := by decide +kernel
theorem dMO_about_114 : decode cMO_about 114 = .ok (.aload_n 0, 1) := by decide +kernel
theorem dMO_about_115 : decode cMO_about 115 = .ok (.iload_n 1, 1) := by decide +kernel
theorem dMO_about_116 : decode cMO_about 116 = .ok (.invokevirtual 168, 3) := by decide +kernel
theorem dMO_about_119 : decode cMO_about 119 = .ok (.aload_n 0, 1) := by decide +kernel
theorem dMO_about_120 : decode cMO_about 120 = .ok (.getfield 40, 3) := by decide +kernel
theorem dMO_about_123 : decode cMO_about 123 = .ok (.iload_n 1, 1) := by decide +kernel
theorem dMO_about_124 : decode cMO_about 124 = .ok (.iaload, 1) := by decide +kernel
theorem dMO_about_125 : decode cMO_about 125 = .ok (.ireturn, 1) := by decide +kernel
theorem dMO_about_126 : decode cMO_about 126 = .ok (.iconst (-1), 1) := by decide +kernel
theorem dMO_about_127 : decode cMO_about 127 = .ok (.ireturn, 1) := by decide +kernel
theorem dMO_isGroup_0 : decode cMO_isGroup 0 = .ok (.iload_n 1, 1) := by decide +kernel
theorem dMO_isGroup_1 : decode cMO_isGroup 1 = .ok (.ifCond .lt 15, 3) := by decide +kernel
theorem dMO_isGroup_4 : decode cMO_isGroup 4 = .ok (.iload_n 1, 1) := by decide +kernel
theorem dMO_isGroup_5 : decode cMO_isGroup 5 = .ok (.aload_n 0, 1) := by decide +kernel
theorem dMO_isGroup_6 : decode cMO_isGroup 6 = .ok (.getfield 88, 3) := by decide +kernel
theorem dMO_isGroup_9 : decode cMO_isGroup 9 = .ok (.if_icmp .ge 7, 3) := by decide +kernel
theorem dMO_isGroup_12 : decode cMO_isGroup 12 = .ok (.iconst 1, 1) := by decide +kernel
theorem dMO_isGroup_13 : decode cMO_isGroup 13 = .ok (.goto 4, 3) := by decide +kernel
theorem dMO_isGroup_16 : decode cMO_isGroup 16 = .ok (.iconst 0, 1) := by decide +kernel
theorem dMO_isGroup_17 : decode cMO_isGroup 17 = .ok (.ireturn, 1) := by decide +kernel
theorem dMO_matrices_0 : decode cMO_matrices 0 = .ok (.iconst 1, 1) := by decide +kernel
theorem dMO_matrices_1 : decode cMO_matrices 1 = .ok (.istore_n 2, 1) := by decide +kernel
theorem dMO_matrices_2 : decode cMO_matrices 2 = .ok (.iconst 1, 1) := by decide +kernel
theorem dMO_matrices_3 : decode cMO_matrices 3 = .ok (.istore_n 3, 1) := by decide +kernel
theorem dMO_matrices_4 : decode cMO_matrices 4 = .ok (.iload_n 3, 1) := by decide +kernel
theorem dMO_matrices_5 : decode cMO_matrices 5 = .ok (.aload_n 0, 1) := by decide +kernel
theorem dMO_matrices_6 : decode cMO_matrices 6 = .ok (.getfield 28, 3) := by decide +kernel
theorem dMO_matrices_9 : decode cMO_matrices 9 = .ok (.iload_n 1, 1) := by decide +kernel
theorem dMO_matrices_10 : decode cMO_matrices 10 = .ok (.iaload, 1) := by decide +kernel
theorem dMO_matrices_11 : decode cMO_matrices 11 = .ok (.if_icmp .ge 54, 3) := by decide +kernel
theorem dMO_matrices_14 : decode cMO_matrices 14 = .ok (.iload_n 2, 1) := by decide +kernel
theorem dMO_matrices_15 : decode cMO_matrices 15 = .ok (.aload_n 0, 1) := by decide +kernel
theorem dMO_matrices_16 : decode cMO_matrices 16 = .ok (.getfield 25, 3) := by decide +kernel
theorem dMO_matrices_19 : decode cMO_matrices 19 = .ok (.sipush 192, 3) := by decide +kernel
theorem dMO_matrices_22 : decode cMO_matrices 22 = .ok (.iload_n 1, 1) := by decide +kernel
theorem dMO_matrices_23 : decode cMO_matrices 23 = .ok (.imul, 1) := by decide +kernel
theorem dMO_matrices_24 : decode cMO_matrices 24 = .ok (.iload_n 3, 1) := by decide +kernel
theorem dMO_matrices_25 : decode cMO_matrices 25 = .ok (.iadd, 1) := by decide +kernel
theorem dMO_matrices_26 : decode cMO_matrices 26 = .ok (.iaload, 1) := by decide +kernel
theorem dMO_matrices_27 : decode cMO_matrices 27 = .ok (.sipush 13824, 3) := by decide +kernel
theorem dMO_matrices_30 : decode cMO_matrices 30 = .ok (.idiv, 1) := by decide +kernel
theorem dMO_matrices_31 : decode cMO_matrices 31 = .ok (.aload_n 0, 1) := by decide +kernel
theorem dMO_matrices_32 : decode cMO_matrices 32 = .ok (.getfield 25, 3) := by decide +kernel
theorem dMO_matrices_35 : decode cMO_matrices 35 = .ok (.sipush 192, 3) := by decide +kernel
theorem dMO_matrices_38 : decode cMO_matrices 38 = .ok (.iload_n 1, 1) := by decide +kernel
theorem dMO_matrices_39 : decode cMO_matrices 39 = .ok (.imul, 1) := by decide +kernel
theorem dMO_matrices_40 : decode cMO_matrices 40 = .ok (.iload_n 3, 1) := by decide +kernel
theorem dMO_matrices_41 : decode cMO_matrices 41 = .ok (.iadd, 1) := by decide +kernel
theorem dMO_matrices_42 : decode cMO_matrices 42 = .ok (.iconst 1, 1) := by decide +kernel
theorem dMO_matrices_43 : decode cMO_matrices 43 = .ok (.isub, 1) := by decide +kernel
theorem dMO_matrices_44 : decode cMO_matrices 44 = .ok (.iaload, 1) := by decide +kernel
theorem dMO_matrices_45 : decode cMO_matrices 45 = .ok (.sipush 13824, 3) := by decide +kernel
theorem dMO_matrices_48 : decode cMO_matrices 48 = .ok (.idiv, 1) := by decide +kernel
theorem dMO_matrices_49 : decode cMO_matrices 49 = .ok (.if_icmp .eq 7, 3) := by decide +kernel
theorem dMO_matrices_52 : decode cMO_matrices 52 = .ok (.iconst 1, 1) := by decide +kernel
theorem dMO_matrices_53 : decode cMO_matrices 53 = .ok (.goto 4, 3) := by decide +kernel
theorem dMO_matrices_56 : decode cMO_matrices 56 = .ok (.iconst 0, 1) := by decide +kernel
theorem dMO_matrices_57 : decode cMO_matrices 57 = .ok (.iadd, 1) := by decide +kernel
theorem dMO_matrices_58 : decode cMO_matrices 58 = .ok (.istore_n 2, 1) := by decide +kernel
theorem dMO_matrices_59 : decode cMO_matrices 59 = .ok (.iinc 3 1, 3) := by decide +kernel
theorem dMO_matrices_62 : decode cMO_matrices 62 = .ok (.goto (-58), 3) := by decide +kernel
theorem dMO_matrices_65 : decode cMO_matrices 65 = .ok (.iload_n 2, 1) := by decide +kernel
theorem dMO_matrices_66 : decode cMO_matrices 66 = .ok (.ireturn, 1) := by decide +kernel
theorem dMO_centrings_0 : decode cMO_centrings 0 = .ok (.iconst 0, 1) := by decide +kernel
theorem dMO_centrings_1 : decode cMO_centrings 1 = .ok (.istore_n 2, 1) := by decide +kernel
theorem dMO_centrings_2 : decode cMO_centrings 2 = .ok (.invokestatic 98, 3) := by decide +kernel
theorem dMO_centrings_5 : decode cMO_centrings 5 = .ok (.sipush 13824, 3) := by decide +kernel
theorem dMO_centrings_8 : decode cMO_centrings 8 = .ok (.idiv, 1) := by decide +kernel
theorem dMO_centrings_9 : decode cMO_centrings 9 = .ok (.istore_n 3, 1) := by decide +kernel
theorem dMO_centrings_10 : decode cMO_centrings 10 = .ok (.iconst 0, 1) := by decide +kernel
theorem dMO_centrings_11 : decode cMO_centrings 11 = .ok (.istore 4, 2) := by decide +kernel
theorem dMO_centrings_13 : decode cMO_centrings 13 = .ok (.iload 4, 2) := by decide +kernel
theorem dMO_centrings_15 : decode cMO_centrings 15 = .ok (.aload_n 0, 1) := by decide +kernel
theorem dMO_centrings_16 : decode cMO_centrings 16 = .ok (.getfield 28, 3) := by decide +kernel
theorem dMO_centrings_19 : decode cMO_centrings 19 = .ok (.iload_n 1, 1) := by decide +kernel
theorem dMO_centrings_20 : decode cMO_centrings 20 = .ok (.iaload, 1) := by decide +kernel
theorem dMO_centrings_21 : decode cMO_centrings 21 = .ok (.if_icmp .ge 38, 3) := by decide +kernel
theorem dMO_centrings_24 : decode cMO_centrings 24 = .ok (.iload_n 2, 1) := by decide +kernel
theorem dMO_centrings_25 : decode cMO_centrings 25 = .ok (.aload_n 0, 1) := by decide +kernel
theorem dMO_centrings_26 : decode cMO_centrings 26 = .ok (.getfield 25, 3) := by decide +kernel
theorem dMO_centrings_29 : decode cMO_centrings 29 = .ok (.sipush 192, 3) := by decide +kernel
theorem dMO_centrings_32 : decode cMO_centrings 32 = .ok (.iload_n 1, 1) := by decide +kernel
theorem dMO_centrings_33 : decode cMO_centrings 33 = .ok (.imul, 1) := by decide +kernel
theorem dMO_centrings_34 : decode cMO_centrings 34 = .ok (.iload 4, 2) := by decide +kernel
theorem dMO_centrings_36 : decode cMO_centrings 36 = .ok (.iadd, 1) := by decide +kernel
theorem dMO_centrings_37 : decode cMO_centrings 37 = .ok (.iaload, 1) := by decide +kernel
theorem dMO_centrings_38 : decode cMO_centrings 38 = .ok (.sipush 13824, 3) := by decide +kernel
theorem dMO_centrings_41 : decode cMO_centrings 41 = .ok (.idiv, 1) := by decide +kernel
theorem dMO_centrings_42 : decode cMO_centrings 42 = .ok (.iload_n 3, 1) := by decide +kernel
theorem dMO_centrings_43 : decode cMO_centrings 43 = .ok (.if_icmp .ne 7, 3) := by decide +kernel
theorem dMO_centrings_46 : decode cMO_centrings 46 = .ok (.iconst 1, 1) := by decide +kernel
theorem dMO_centrings_47 : decode cMO_centrings 47 = .ok (.goto 4, 3) := by decide +kernel
theorem dMO_centrings_50 : decode cMO_centrings 50 = .ok (.iconst 0, 1) := by decide +kernel
theorem dMO_centrings_51 : decode cMO_centrings 51 = .ok (.iadd, 1) := by decide +kernel
theorem dMO_centrings_52 : decode cMO_centrings 52 = .ok (.istore_n 2, 1) := by decide +kernel
theorem dMO_centrings_53 : decode cMO_centrings 53 = .ok (.iinc 4 1, 3) := by decide +kernel
theorem dMO_centrings_56 : decode cMO_centrings 56 = .ok (.goto (-43), 3) := by decide +kernel
theorem dMO_centrings_59 : decode cMO_centrings 59 = .ok (.iload_n 2, 1) := by decide +kernel
theorem dMO_centrings_60 : decode cMO_centrings 60 = .ok (.ireturn, 1) := by decide +kernel
theorem dMO_letterOf_0 : decode cMO_letterOf 0 = .ok (.aload_n 0, 1) := by decide +kernel
theorem dMO_letterOf_1 : decode cMO_letterOf 1 = .ok (.iload_n 1, 1) := by decide +kernel
theorem dMO_letterOf_2 : decode cMO_letterOf 2 = .ok (.sipush 300, 3) := by decide +kernel
theorem dMO_letterOf_5 : decode cMO_letterOf 5 = .ok (.invokevirtual 122, 3) := by decide +kernel
theorem dMO_letterOf_8 : decode cMO_letterOf 8 = .ok (.istore_n 3, 1) := by decide +kernel
theorem dMO_letterOf_9 : decode cMO_letterOf 9 = .ok (.aload_n 0, 1) := by decide +kernel
theorem dMO_letterOf_10 : decode cMO_letterOf 10 = .ok (.iload_n 1, 1) := by decide +kernel
theorem dMO_letterOf_11 : decode cMO_letterOf 11 = .ok (.sipush 6924, 3) := by decide +kernel
theorem dMO_letterOf_14 : decode cMO_letterOf 14 = .ok (.invokevirtual 122, 3) := by decide +kernel
theorem dMO_letterOf_17 : decode cMO_letterOf 17 = .ok (.istore 4, 2) := by decide +kernel
theorem dMO_letterOf_19 : decode cMO_letterOf 19 = .ok (.aload_n 0, 1) := by decide +kernel
theorem dMO_letterOf_20 : decode cMO_letterOf 20 = .ok (.iload_n 1, 1) := by decide +kernel
theorem dMO_letterOf_21 : decode cMO_letterOf 21 = .ok (.sipush 7200, 3) := by decide +kernel
theorem dMO_letterOf_24 : decode cMO_letterOf 24 = .ok (.invokevirtual 122, 3) := by decide +kernel
theorem dMO_letterOf_27 : decode cMO_letterOf 27 = .ok (.istore 5, 2) := by decide +kernel
theorem dMO_letterOf_29 : decode cMO_letterOf 29 = .ok (.iload_n 2, 1) := by decide +kernel
theorem dMO_letterOf_30 : decode cMO_letterOf 30 = .ok (.iconst 1, 1) := by decide +kernel
theorem dMO_letterOf_31 : decode cMO_letterOf 31 = .ok (.if_icmp .ne 5, 3) := by decide +kernel
theorem dMO_letterOf_34 : decode cMO_letterOf 34 = .ok (.iconst 0, 1) := by decide +kernel
theorem dMO_letterOf_35 : decode cMO_letterOf 35 = .ok (.ireturn, 1) := by decide +kernel
theorem dMO_letterOf_36 : decode cMO_letterOf 36 = .ok (.iload_n 2, 1) := by decide +kernel
theorem dMO_letterOf_37 : decode cMO_letterOf 37 = .ok (.iconst 2, 1) := by decide +kernel
theorem dMO_letterOf_38 : decode cMO_letterOf 38 = .ok (.if_icmp .ne 47, 3) := by decide +kernel
theorem dMO_letterOf_41 : decode cMO_letterOf 41 = .ok (.iload_n 3, 1) := by decide +kernel
theorem dMO_letterOf_42 : decode cMO_letterOf 42 = .ok (.ifCond .eq 7, 3) := by decide +kernel
theorem dMO_letterOf_45 : decode cMO_letterOf 45 = .ok (.iconst 1, 1) := by decide +kernel
theorem dMO_letterOf_46 : decode cMO_letterOf 46 = .ok (.goto 38, 3) := by decide +kernel
theorem dMO_letterOf_49 : decode cMO_letterOf 49 = .ok (.iload 4, 2) := by decide +kernel
theorem dMO_letterOf_51 : decode cMO_letterOf 51 = .ok (.ifCond .eq 7, 3) := by decide +kernel
theorem dMO_letterOf_54 : decode cMO_letterOf 54 = .ok (.iconst 2, 1) := by decide +kernel
theorem dMO_letterOf_55 : decode cMO_letterOf 55 = .ok (.goto 29, 3) := by decide +kernel
theorem dMO_letterOf_58 : decode cMO_letterOf 58 = .ok (.iload 5, 2) := by decide +kernel
theorem dMO_letterOf_60 : decode cMO_letterOf 60 = .ok (.ifCond .eq 7, 3) := by decide +kernel
theorem dMO_letterOf_63 : decode cMO_letterOf 63 = .ok (.iconst 3, 1) := by decide +kernel
theorem dMO_letterOf_64 : decode cMO_letterOf 64 = .ok (.goto 20, 3) := by decide +kernel
theorem dMO_letterOf_67 : decode cMO_letterOf 67 = .ok (.aload_n 0, 1) := by decide +kernel
theorem dMO_letterOf_68 : decode cMO_letterOf 68 = .ok (.iload_n 1, 1) := by decide +kernel
theorem dMO_letterOf_69 : decode cMO_letterOf 69 = .ok (.sipush 7212, 3) := by decide +kernel
theorem dMO_letterOf_72 : decode cMO_letterOf 72 = .ok (.invokevirtual 122, 3) := by decide +kernel
theorem dMO_letterOf_75 : decode cMO_letterOf 75 = .ok (.ifCond .eq 7, 3) := by decide +kernel
theorem dMO_letterOf_78 : decode cMO_letterOf 78 = .ok (.iconst 4, 1) := by decide +kernel
theorem dMO_letterOf_79 : decode cMO_letterOf 79 = .ok (.goto 5, 3) := by decide +kernel
theorem dMO_letterOf_82 : decode cMO_letterOf 82 = .ok (.bipush 8, 2) := by decide +kernel
theorem dMO_letterOf_84 : decode cMO_letterOf 84 = .ok (.ireturn, 1) := by decide +kernel
theorem dMO_letterOf_85 : decode cMO_letterOf 85 = .ok (.iload_n 2, 1) := by decide +kernel
theorem dMO_letterOf_86 : decode cMO_letterOf 86 = .ok (.iconst 4, 1) := by decide +kernel
theorem dMO_letterOf_87 : decode cMO_letterOf 87 = .ok (.if_icmp .ne 24, 3) := by decide +kernel
theorem dMO_letterOf_90 : decode cMO_letterOf 90 = .ok (.iload_n 3, 1) := by decide +kernel
theorem dMO_letterOf_91 : decode cMO_letterOf 91 = .ok (.ifCond .eq 17, 3) := by decide +kernel
theorem dMO_letterOf_94 : decode cMO_letterOf 94 = .ok (.iload 4, 2) := by decide +kernel
theorem dMO_letterOf_96 : decode cMO_letterOf 96 = .ok (.ifCond .eq 12, 3) := by decide +kernel
theorem dMO_letterOf_99 : decode cMO_letterOf 99 = .ok (.iload 5, 2) := by decide +kernel
theorem dMO_letterOf_101 : decode cMO_letterOf 101 = .ok (.ifCond .eq 7, 3) := by decide +kernel
theorem dMO_letterOf_104 : decode cMO_letterOf 104 = .ok (.iconst 5, 1) := by decide +kernel
theorem dMO_letterOf_105 : decode cMO_letterOf 105 = .ok (.goto 5, 3) := by decide +kernel
theorem dMO_letterOf_108 : decode cMO_letterOf 108 = .ok (.bipush 8, 2) := by decide +kernel
theorem dMO_letterOf_110 : decode cMO_letterOf 110 = .ok (.ireturn, 1) := by decide +kernel
theorem dMO_letterOf_111 : decode cMO_letterOf 111 = .ok (.iload_n 2, 1) := by decide +kernel
theorem dMO_letterOf_112 : decode cMO_letterOf 112 = .ok (.iconst 3, 1) := by decide +kernel
theorem dMO_letterOf_113 : decode cMO_letterOf 113 = .ok (.if_icmp .eq 6, 3) := by decide +kernel
theorem dMO_letterOf_116 : decode cMO_letterOf 116 = .ok (.bipush 8, 2) := by decide +kernel
theorem dMO_letterOf_118 : decode cMO_letterOf 118 = .ok (.ireturn, 1) := by decide +kernel
theorem dMO_letterOf_119 : decode cMO_letterOf 119 = .ok (.aload_n 0, 1) := by decide +kernel
theorem dMO_letterOf_120 : decode cMO_letterOf 120 = .ok (.iload_n 1, 1) := by decide +kernel
theorem dMO_letterOf_121 : decode cMO_letterOf 121 = .ok (.sipush 5008, 3) := by decide +kernel
theorem dMO_letterOf_124 : decode cMO_letterOf 124 = .ok (.invokevirtual 122, 3) := by decide +kernel
theorem dMO_letterOf_127 : decode cMO_letterOf 127 = .ok (.ifCond .eq 17, 3) := by decide +kernel
theorem dMO_letterOf_130 : decode cMO_letterOf 130 = .ok (.aload_n 0, 1) := by decide +kernel
theorem dMO_letterOf_131 : decode cMO_letterOf 131 = .ok (.iload_n 1, 1) := by decide +kernel
theorem dMO_letterOf_132 : decode cMO_letterOf 132 = .ok (.sipush 9416, 3) := by decide +kernel
theorem dMO_letterOf_135 : decode cMO_letterOf 135 = .ok (.invokevirtual 122, 3) := by decide +kernel
theorem dMO_letterOf_138 : decode cMO_letterOf 138 = .ok (.ifCond .eq 6, 3) := by decide +kernel
theorem dMO_letterOf_141 : decode cMO_letterOf 141 = .ok (.bipush 6, 2) := by decide +kernel
theorem dMO_letterOf_143 : decode cMO_letterOf 143 = .ok (.ireturn, 1) := by decide +kernel
theorem dMO_letterOf_144 : decode cMO_letterOf 144 = .ok (.aload_n 0, 1) := by decide +kernel
theorem dMO_letterOf_145 : decode cMO_letterOf 145 = .ok (.iload_n 1, 1) := by decide +kernel
theorem dMO_letterOf_146 : decode cMO_letterOf 146 = .ok (.sipush 5000, 3) := by decide +kernel
theorem dMO_letterOf_149 : decode cMO_letterOf 149 = .ok (.invokevirtual 122, 3) := by decide +kernel
theorem dMO_letterOf_152 : decode cMO_letterOf 152 = .ok (.ifCond .eq 19, 3) := by decide +kernel
theorem dMO_letterOf_155 : decode cMO_letterOf 155 = .ok (.aload_n 0, 1) := by decide +kernel
theorem dMO_letterOf_156 : decode cMO_letterOf 156 = .ok (.iload_n 1, 1) := by decide +kernel
theorem dMO_letterOf_157 : decode cMO_letterOf 157 = .ok (.sipush 9424, 3) := by decide +kernel
theorem dMO_letterOf_160 : decode cMO_letterOf 160 = .ok (.invokevirtual 122, 3) := by decide +kernel
theorem dMO_letterOf_163 : decode cMO_letterOf 163 = .ok (.ifCond .eq 8, 3) := by decide +kernel
theorem dMO_letterOf_166 : decode cMO_letterOf 166 = .ok (.bipush 7, 2) := by decide +kernel
theorem dMO_letterOf_168 : decode cMO_letterOf 168 = .ok (.goto 5, 3) := by decide +kernel
theorem dMO_letterOf_171 : decode cMO_letterOf 171 = .ok (.bipush 8, 2) := by decide +kernel
theorem dMO_letterOf_173 : decode cMO_letterOf 173 = .ok (.ireturn, 1) := by decide +kernel
theorem dMO_hasShift_0 : decode cMO_hasShift 0 = .ok (.aload_n 0, 1) := by decide +kernel
theorem dMO_hasShift_1 : decode cMO_hasShift 1 = .ok (.iload_n 1, 1) := by decide +kernel
theorem dMO_hasShift_2 : decode cMO_hasShift 2 = .ok (.invokestatic 98, 3) := by decide +kernel
theorem dMO_hasShift_5 : decode cMO_hasShift 5 = .ok (.iload_n 2, 1) := by decide +kernel
theorem dMO_hasShift_6 : decode cMO_hasShift 6 = .ok (.iadd, 1) := by decide +kernel
theorem dMO_hasShift_7 : decode cMO_hasShift 7 = .ok (.invokevirtual 119, 3) := by decide +kernel
theorem dMO_hasShift_10 : decode cMO_hasShift 10 = .ok (.iconst (-1), 1) := by decide +kernel
theorem dMO_hasShift_11 : decode cMO_hasShift 11 = .ok (.if_icmp .eq 7, 3) := by decide +kernel
theorem dMO_hasShift_14 : decode cMO_hasShift 14 = .ok (.iconst 1, 1) := by decide +kernel
theorem dMO_hasShift_15 : decode cMO_hasShift 15 = .ok (.goto 4, 3) := by decide +kernel
theorem dMO_hasShift_18 : decode cMO_hasShift 18 = .ok (.iconst 0, 1) := by decide +kernel
theorem dMO_hasShift_19 : decode cMO_hasShift 19 = .ok (.ireturn, 1) := by decide +kernel
theorem dMO_place_0 : decode cMO_place 0 = .ok (.iconst 0, 1) := by decide +kernel
theorem dMO_place_1 : decode cMO_place 1 = .ok (.istore_n 3, 1) := by decide +kernel
theorem dMO_place_2 : decode cMO_place 2 = .ok (.aload_n 0, 1) := by decide +kernel
theorem dMO_place_3 : decode cMO_place 3 = .ok (.getfield 28, 3) := by decide +kernel
theorem dMO_place_6 : decode cMO_place 6 = .ok (.iload_n 1, 1) := by decide +kernel
theorem dMO_place_7 : decode cMO_place 7 = .ok (.iaload, 1) := by decide +kernel
theorem dMO_place_8 : decode cMO_place 8 = .ok (.iconst 1, 1) := by decide +kernel
theorem dMO_place_9 : decode cMO_place 9 = .ok (.isub, 1) := by decide +kernel
theorem dMO_place_10 : decode cMO_place 10 = .ok (.istore 4, 2) := by decide +kernel
theorem dMO_place_12 : decode cMO_place 12 = .ok (.iload_n 3, 1) := by decide +kernel
theorem dMO_place_13 : decode cMO_place 13 = .ok (.iload 4, 2) := by decide +kernel
theorem dMO_place_15 : decode cMO_place 15 = .ok (.if_icmp .ge 43, 3) := by decide +kernel
theorem dMO_place_18 : decode cMO_place 18 = .ok (.iload_n 3, 1) := by decide +kernel
theorem dMO_place_19 : decode cMO_place 19 = .ok (.iload 4, 2) := by decide +kernel
theorem dMO_place_21 : decode cMO_place 21 = .ok (.iadd, 1) := by decide +kernel
theorem dMO_place_22 : decode cMO_place 22 = .ok (.iconst 2, 1) := by decide +kernel
theorem dMO_place_23 : decode cMO_place 23 = .ok (.idiv, 1) := by decide +kernel
theorem dMO_place_24 : decode cMO_place 24 = .ok (.istore 5, 2) := by decide +kernel
theorem dMO_place_26 : decode cMO_place 26 = .ok (.aload_n 0, 1) := by decide +kernel
theorem dMO_place_27 : decode cMO_place 27 = .ok (.getfield 25, 3) := by decide +kernel
theorem dMO_place_30 : decode cMO_place 30 = .ok (.sipush 192, 3) := by decide +kernel
theorem dMO_place_33 : decode cMO_place 33 = .ok (.iload_n 1, 1) := by decide +kernel
theorem dMO_place_34 : decode cMO_place 34 = .ok (.imul, 1) := by decide +kernel
theorem dMO_place_35 : decode cMO_place 35 = .ok (.iload 5, 2) := by decide +kernel
theorem dMO_place_37 : decode cMO_place 37 = .ok (.iadd, 1) := by decide +kernel
theorem dMO_place_38 : decode cMO_place 38 = .ok (.iaload, 1) := by decide +kernel
theorem dMO_place_39 : decode cMO_place 39 = .ok (.iload_n 2, 1) := by decide +kernel
theorem dMO_place_40 : decode cMO_place 40 = .ok (.if_icmp .ge 11, 3) := by decide +kernel
theorem dMO_place_43 : decode cMO_place 43 = .ok (.iload 5, 2) := by decide +kernel
theorem dMO_place_45 : decode cMO_place 45 = .ok (.iconst 1, 1) := by decide +kernel
theorem dMO_place_46 : decode cMO_place 46 = .ok (.iadd, 1) := by decide +kernel
theorem dMO_place_47 : decode cMO_place 47 = .ok (.istore_n 3, 1) := by decide +kernel
theorem dMO_place_48 : decode cMO_place 48 = .ok (.goto 7, 3) := by decide +kernel
theorem dMO_place_51 : decode cMO_place 51 = .ok (.iload 5, 2) := by decide +kernel
theorem dMO_place_53 : decode cMO_place 53 = .ok (.istore 4, 2) := by decide +kernel
theorem dMO_place_55 : decode cMO_place 55 = .ok (.goto (-43), 3) := by decide +kernel
theorem dMO_place_58 : decode cMO_place 58 = .ok (.aload_n 0, 1) := by decide +kernel
theorem dMO_place_59 : decode cMO_place 59 = .ok (.getfield 25, 3) := by decide +kernel
theorem dMO_place_62 : decode cMO_place 62 = .ok (.sipush 192, 3) := by decide +kernel
theorem dMO_place_65 : decode cMO_place 65 = .ok (.iload_n 1, 1) := by decide +kernel
theorem dMO_place_66 : decode cMO_place 66 = .ok (.imul, 1) := by decide +kernel
theorem dMO_place_67 : decode cMO_place 67 = .ok (.iload_n 3, 1) := by decide +kernel
theorem dMO_place_68 : decode cMO_place 68 = .ok (.iadd, 1) := by decide +kernel
theorem dMO_place_69 : decode cMO_place 69 = .ok (.iaload, 1) := by decide +kernel
theorem dMO_place_70 : decode cMO_place 70 = .ok (.iload_n 2, 1) := by decide +kernel
theorem dMO_place_71 : decode cMO_place 71 = .ok (.if_icmp .ne 7, 3) := by decide +kernel
theorem dMO_place_74 : decode cMO_place 74 = .ok (.iload_n 3, 1) := by decide +kernel
theorem dMO_place_75 : decode cMO_place 75 = .ok (.goto 4, 3) := by decide +kernel
theorem dMO_place_78 : decode cMO_place 78 = .ok (.iconst (-1), 1) := by decide +kernel
theorem dMO_place_79 : decode cMO_place 79 = .ok (.ireturn, 1) := by decide +kernel
theorem dMO_classOf_0 : decode cMO_classOf 0 = .ok (.iconst 0, 1) := by decide +kernel
theorem dMO_classOf_1 : decode cMO_classOf 1 = .ok (.istore 4, 2) := by decide +kernel
theorem dMO_classOf_3 : decode cMO_classOf 3 = .ok (.iload 4, 2) := by decide +kernel
theorem dMO_classOf_5 : decode cMO_classOf 5 = .ok (.bipush 13, 2) := by decide +kernel
theorem dMO_classOf_7 : decode cMO_classOf 7 = .ok (.if_icmp .ge 17, 3) := by decide +kernel
theorem dMO_classOf_10 : decode cMO_classOf 10 = .ok (.aload_n 0, 1) := by decide +kernel
theorem dMO_classOf_11 : decode cMO_classOf 11 = .ok (.getfield 64, 3) := by decide +kernel
theorem dMO_classOf_14 : decode cMO_classOf 14 = .ok (.iload 4, 2) := by decide +kernel
theorem dMO_classOf_16 : decode cMO_classOf 16 = .ok (.iconst 0, 1) := by decide +kernel
theorem dMO_classOf_17 : decode cMO_classOf 17 = .ok (.iastore, 1) := by decide +kernel
theorem dMO_classOf_18 : decode cMO_classOf 18 = .ok (.iinc 4 1, 3) := by decide +kernel
theorem dMO_classOf_21 : decode cMO_classOf 21 = .ok (.goto (-18), 3) := by decide +kernel
theorem dMO_classOf_24 : decode cMO_classOf 24 = .ok (.iconst (-1), 1) := by decide +kernel
theorem dMO_classOf_25 : decode cMO_classOf 25 = .ok (.istore 4, 2) := by decide +kernel
theorem dMO_classOf_27 : decode cMO_classOf 27 = .ok (.iconst 0, 1) := by decide +kernel
theorem dMO_classOf_28 : decode cMO_classOf 28 = .ok (.istore 5, 2) := by decide +kernel
theorem dMO_classOf_30 : decode cMO_classOf 30 = .ok (.iload 5, 2) := by decide +kernel
theorem dMO_classOf_32 : decode cMO_classOf 32 = .ok (.iload_n 3, 1) := by decide +kernel
theorem dMO_classOf_33 : decode cMO_classOf 33 = .ok (.if_icmp .ge 75, 3) := by decide +kernel
theorem dMO_classOf_36 : decode cMO_classOf 36 = .ok (.aload_n 1, 1) := by decide +kernel
theorem dMO_classOf_37 : decode cMO_classOf 37 = .ok (.iload_n 2, 1) := by decide +kernel
theorem dMO_classOf_38 : decode cMO_classOf 38 = .ok (.iload 5, 2) := by decide +kernel
theorem dMO_classOf_40 : decode cMO_classOf 40 = .ok (.iadd, 1) := by decide +kernel
theorem dMO_classOf_41 : decode cMO_classOf 41 = .ok (.iaload, 1) := by decide +kernel
theorem dMO_classOf_42 : decode cMO_classOf 42 = .ok (.sipush 13824, 3) := by decide +kernel
theorem dMO_classOf_45 : decode cMO_classOf 45 = .ok (.idiv, 1) := by decide +kernel
theorem dMO_classOf_46 : decode cMO_classOf 46 = .ok (.iload 4, 2) := by decide +kernel
theorem dMO_classOf_48 : decode cMO_classOf 48 = .ok (.if_icmp .ne 6, 3) := by decide +kernel
theorem dMO_classOf_51 : decode cMO_classOf 51 = .ok (.goto 51, 3) := by decide +kernel
theorem dMO_classOf_54 : decode cMO_classOf 54 = .ok (.aload_n 1, 1) := by decide +kernel
theorem dMO_classOf_55 : decode cMO_classOf 55 = .ok (.iload_n 2, 1) := by decide +kernel
theorem dMO_classOf_56 : decode cMO_classOf 56 = .ok (.iload 5, 2) := by decide +kernel
theorem dMO_classOf_58 : decode cMO_classOf 58 = .ok (.iadd, 1) := by decide +kernel
theorem dMO_classOf_59 : decode cMO_classOf 59 = .ok (.iaload, 1) := by decide +kernel
theorem dMO_classOf_60 : decode cMO_classOf 60 = .ok (.sipush 13824, 3) := by decide +kernel
theorem dMO_classOf_63 : decode cMO_classOf 63 = .ok (.idiv, 1) := by decide +kernel
theorem dMO_classOf_64 : decode cMO_classOf 64 = .ok (.istore 4, 2) := by decide +kernel
theorem dMO_classOf_66 : decode cMO_classOf 66 = .ok (.aload_n 1, 1) := by decide +kernel
theorem dMO_classOf_67 : decode cMO_classOf 67 = .ok (.iload_n 2, 1) := by decide +kernel
theorem dMO_classOf_68 : decode cMO_classOf 68 = .ok (.iload 5, 2) := by decide +kernel
theorem dMO_classOf_70 : decode cMO_classOf 70 = .ok (.iadd, 1) := by decide +kernel
theorem dMO_classOf_71 : decode cMO_classOf 71 = .ok (.iaload, 1) := by decide +kernel
theorem dMO_classOf_72 : decode cMO_classOf 72 = .ok (.aload_n 0, 1) := by decide +kernel
theorem dMO_classOf_73 : decode cMO_classOf 73 = .ok (.getfield 7, 3) := by decide +kernel
theorem dMO_classOf_76 : decode cMO_classOf 76 = .ok (.aload_n 0, 1) := by decide +kernel
theorem dMO_classOf_77 : decode cMO_classOf 77 = .ok (.getfield 13, 3) := by decide +kernel
theorem dMO_classOf_80 : decode cMO_classOf 80 = .ok (.invokestatic 76, 3) := by decide +kernel
theorem dMO_classOf_83 : decode cMO_classOf 83 = .ok (.aload_n 0, 1) := by decide +kernel
theorem dMO_classOf_84 : decode cMO_classOf 84 = .ok (.getfield 64, 3) := by decide +kernel
theorem dMO_classOf_87 : decode cMO_classOf 87 = .ok (.bipush 6, 2) := by decide +kernel
theorem dMO_classOf_89 : decode cMO_classOf 89 = .ok (.aload_n 0, 1) := by decide +kernel
theorem dMO_classOf_90 : decode cMO_classOf 90 = .ok (.getfield 7, 3) := by decide +kernel
theorem dMO_classOf_93 : decode cMO_classOf 93 = .ok (.invokestatic 113, 3) := by decide +kernel
theorem dMO_classOf_96 : decode cMO_classOf 96 = .ok (.iadd, 1) := by decide +kernel
theorem dMO_classOf_97 : decode cMO_classOf 97 = .ok (.dup2, 1) := by decide +kernel
theorem dMO_classOf_98 : decode cMO_classOf 98 = .ok (.iaload, 1) := by decide +kernel
theorem dMO_classOf_99 : decode cMO_classOf 99 = .ok (.iconst 1, 1) := by decide +kernel
theorem dMO_classOf_100 : decode cMO_classOf 100 = .ok (.iadd, 1) := by decide +kernel
theorem dMO_classOf_101 : decode cMO_classOf 101 = .ok (.iastore, 1) := by decide +kernel
theorem dMO_classOf_102 : decode cMO_classOf 102 = .ok (.iinc 5 1, 3) := by decide +kernel
theorem dMO_classOf_105 : decode cMO_classOf 105 = .ok (.goto (-75), 3) := by decide +kernel
theorem dMO_classOf_108 : decode cMO_classOf 108 = .ok (.sipush 1000, 3) := by decide +kernel
theorem dMO_classOf_111 : decode cMO_classOf 111 = .ok (.aload_n 0, 1) := by decide +kernel
theorem dMO_classOf_112 : decode cMO_classOf 112 = .ok (.getfield 64, 3) := by decide +kernel
theorem dMO_classOf_115 : decode cMO_classOf 115 = .ok (.bipush 8, 2) := by decide +kernel
theorem dMO_classOf_117 : decode cMO_classOf 117 = .ok (.iaload, 1) := by decide +kernel
theorem dMO_classOf_118 : decode cMO_classOf 118 = .ok (.imul, 1) := by decide +kernel
theorem dMO_classOf_119 : decode cMO_classOf 119 = .ok (.bipush 100, 2) := by decide +kernel
theorem dMO_classOf_121 : decode cMO_classOf 121 = .ok (.aload_n 0, 1) := by decide +kernel
theorem dMO_classOf_122 : decode cMO_classOf 122 = .ok (.getfield 64, 3) := by decide +kernel
theorem dMO_classOf_125 : decode cMO_classOf 125 = .ok (.bipush 9, 2) := by decide +kernel
theorem dMO_classOf_127 : decode cMO_classOf 127 = .ok (.iaload, 1) := by decide +kernel
theorem dMO_classOf_128 : decode cMO_classOf 128 = .ok (.imul, 1) := by decide +kernel
theorem dMO_classOf_129 : decode cMO_classOf 129 = .ok (.iadd, 1) := by decide +kernel
theorem dMO_classOf_130 : decode cMO_classOf 130 = .ok (.bipush 10, 2) := by decide +kernel
theorem dMO_classOf_132 : decode cMO_classOf 132 = .ok (.aload_n 0, 1) := by decide +kernel
theorem dMO_classOf_133 : decode cMO_classOf 133 = .ok (.getfield 64, 3) := by decide +kernel
theorem dMO_classOf_136 : decode cMO_classOf 136 = .ok (.bipush 10, 2) := by decide +kernel
theorem dMO_classOf_138 : decode cMO_classOf 138 = .ok (.iaload, 1) := by decide +kernel
theorem dMO_classOf_139 : decode cMO_classOf 139 = .ok (.imul, 1) := by decide +kernel
theorem dMO_classOf_140 : decode cMO_classOf 140 = .ok (.iadd, 1) := by decide +kernel
theorem dMO_classOf_141 : decode cMO_classOf 141 = .ok (.aload_n 0, 1) := by decide +kernel
theorem dMO_classOf_142 : decode cMO_classOf 142 = .ok (.getfield 64, 3) := by decide +kernel
theorem dMO_classOf_145 : decode cMO_classOf 145 = .ok (.bipush 12, 2) := by decide +kernel
theorem dMO_classOf_147 : decode cMO_classOf 147 = .ok (.iaload, 1) := by decide +kernel
theorem dMO_classOf_148 : decode cMO_classOf 148 = .ok (.iadd, 1) := by decide +kernel
theorem dMO_classOf_149 : decode cMO_classOf 149 = .ok (.istore 5, 2) := by decide +kernel
theorem dMO_classOf_151 : decode cMO_classOf 151 = .ok (.sipush 10000, 3) := by decide +kernel
theorem dMO_classOf_154 : decode cMO_classOf 154 = .ok (.aload_n 0, 1) := by decide +kernel
theorem dMO_classOf_155 : decode cMO_classOf 155 = .ok (.getfield 64, 3) := by decide +kernel
theorem dMO_classOf_158 : decode cMO_classOf 158 = .ok (.iconst 5, 1) := by decide +kernel
theorem dMO_classOf_159 : decode cMO_classOf 159 = .ok (.iaload, 1) := by decide +kernel
theorem dMO_classOf_160 : decode cMO_classOf 160 = .ok (.imul, 1) := by decide +kernel
theorem dMO_classOf_161 : decode cMO_classOf 161 = .ok (.sipush 1000, 3) := by decide +kernel
theorem dMO_classOf_164 : decode cMO_classOf 164 = .ok (.aload_n 0, 1) := by decide +kernel
theorem dMO_classOf_165 : decode cMO_classOf 165 = .ok (.getfield 64, 3) := by decide +kernel
theorem dMO_classOf_168 : decode cMO_classOf 168 = .ok (.iconst 4, 1) := by decide +kernel
theorem dMO_classOf_169 : decode cMO_classOf 169 = .ok (.iaload, 1) := by decide +kernel
theorem dMO_classOf_170 : decode cMO_classOf 170 = .ok (.imul, 1) := by decide +kernel
theorem dMO_classOf_171 : decode cMO_classOf 171 = .ok (.iadd, 1) := by decide +kernel
theorem dMO_classOf_172 : decode cMO_classOf 172 = .ok (.bipush 100, 2) := by decide +kernel
theorem dMO_classOf_174 : decode cMO_classOf 174 = .ok (.aload_n 0, 1) := by decide +kernel
theorem dMO_classOf_175 : decode cMO_classOf 175 = .ok (.getfield 64, 3) := by decide +kernel
theorem dMO_classOf_178 : decode cMO_classOf 178 = .ok (.iconst 3, 1) := by decide +kernel
theorem dMO_classOf_179 : decode cMO_classOf 179 = .ok (.iaload, 1) := by decide +kernel
theorem dMO_classOf_180 : decode cMO_classOf 180 = .ok (.imul, 1) := by decide +kernel
theorem dMO_classOf_181 : decode cMO_classOf 181 = .ok (.iadd, 1) := by decide +kernel
theorem dMO_classOf_182 : decode cMO_classOf 182 = .ok (.bipush 10, 2) := by decide +kernel
theorem dMO_classOf_184 : decode cMO_classOf 184 = .ok (.aload_n 0, 1) := by decide +kernel
theorem dMO_classOf_185 : decode cMO_classOf 185 = .ok (.getfield 64, 3) := by decide +kernel
theorem dMO_classOf_188 : decode cMO_classOf 188 = .ok (.iconst 2, 1) := by decide +kernel
theorem dMO_classOf_189 : decode cMO_classOf 189 = .ok (.iaload, 1) := by decide +kernel
theorem dMO_classOf_190 : decode cMO_classOf 190 = .ok (.imul, 1) := by decide +kernel
theorem dMO_classOf_191 : decode cMO_classOf 191 = .ok (.iadd, 1) := by decide +kernel
theorem dMO_classOf_192 : decode cMO_classOf 192 = .ok (.aload_n 0, 1) := by decide +kernel
theorem dMO_classOf_193 : decode cMO_classOf 193 = .ok (.getfield 64, 3) := by decide +kernel
theorem dMO_classOf_196 : decode cMO_classOf 196 = .ok (.iconst 0, 1) := by decide +kernel
theorem dMO_classOf_197 : decode cMO_classOf 197 = .ok (.iaload, 1) := by decide +kernel
theorem dMO_classOf_198 : decode cMO_classOf 198 = .ok (.iadd, 1) := by decide +kernel
theorem dMO_classOf_199 : decode cMO_classOf 199 = .ok (.istore 6, 2) := by decide +kernel
theorem dMO_classOf_201 : decode cMO_classOf 201 = .ok (.iload 5, 2) := by decide +kernel
theorem dMO_classOf_203 : decode cMO_classOf 203 = .ok (.iload 6, 2) := by decide +kernel
theorem dMO_classOf_205 : decode cMO_classOf 205 = .ok (.invokestatic 116, 3) := by decide +kernel
theorem dMO_classOf_208 : decode cMO_classOf 208 = .ok (.ireturn, 1) := by decide +kernel
theorem dMO_sortOf_0 : decode cMO_sortOf 0 = .ok (.aload_n 0, 1) := by decide +kernel
theorem dMO_sortOf_1 : decode cMO_sortOf 1 = .ok (.iconst 0, 1) := by decide +kernel
theorem dMO_sortOf_2 : decode cMO_sortOf 2 = .ok (.iaload, 1) := by decide +kernel
theorem dMO_sortOf_3 : decode cMO_sortOf 3 = .ok (.aload_n 0, 1) := by decide +kernel
theorem dMO_sortOf_4 : decode cMO_sortOf 4 = .ok (.iconst 4, 1) := by decide +kernel
theorem dMO_sortOf_5 : decode cMO_sortOf 5 = .ok (.iaload, 1) := by decide +kernel
theorem dMO_sortOf_6 : decode cMO_sortOf 6 = .ok (.iadd, 1) := by decide +kernel
theorem dMO_sortOf_7 : decode cMO_sortOf 7 = .ok (.aload_n 0, 1) := by decide +kernel
theorem dMO_sortOf_8 : decode cMO_sortOf 8 = .ok (.bipush 8, 2) := by decide +kernel
theorem dMO_sortOf_10 : decode cMO_sortOf 10 = .ok (.iaload, 1) := by decide +kernel
theorem dMO_sortOf_11 : decode cMO_sortOf 11 = .ok (.iadd, 1) := by decide +kernel
theorem dMO_sortOf_12 : decode cMO_sortOf 12 = .ok (.istore_n 1, 1) := by decide +kernel
theorem dMO_sortOf_13 : decode cMO_sortOf 13 = .ok (.aload_n 0, 1) := by decide +kernel
theorem dMO_sortOf_14 : decode cMO_sortOf 14 = .ok (.invokestatic 84, 3) := by decide +kernel
theorem dMO_sortOf_17 : decode cMO_sortOf 17 = .ok (.istore_n 2, 1) := by decide +kernel
theorem dMO_sortOf_18 : decode cMO_sortOf 18 = .ok (.iload_n 2, 1) := by decide +kernel
theorem dMO_sortOf_19 : decode cMO_sortOf 19 = .ok (.iload_n 1, 1) := by decide +kernel
theorem dMO_sortOf_20 : decode cMO_sortOf 20 = .ok (.imul, 1) := by decide +kernel
theorem dMO_sortOf_21 : decode cMO_sortOf 21 = .ok (.istore_n 3, 1) := by decide +kernel
theorem dMO_sortOf_22 : decode cMO_sortOf 22 = .ok (.iload_n 3, 1) := by decide +kernel
theorem dMO_sortOf_23 : decode cMO_sortOf 23 = .ok (.iconst 3, 1) := by decide +kernel
theorem dMO_sortOf_24 : decode cMO_sortOf 24 = .ok (.if_icmp .ne 7, 3) := by decide +kernel
theorem dMO_sortOf_27 : decode cMO_sortOf 27 = .ok (.iconst 1, 1) := by decide +kernel
theorem dMO_sortOf_28 : decode cMO_sortOf 28 = .ok (.goto 40, 3) := by decide +kernel
theorem dMO_sortOf_31 : decode cMO_sortOf 31 = .ok (.iload_n 3, 1) := by decide +kernel
theorem dMO_sortOf_32 : decode cMO_sortOf 32 = .ok (.iconst (-1), 1) := by decide +kernel
theorem dMO_sortOf_33 : decode cMO_sortOf 33 = .ok (.if_icmp .ne 7, 3) := by decide +kernel
theorem dMO_sortOf_36 : decode cMO_sortOf 36 = .ok (.iconst 2, 1) := by decide +kernel
theorem dMO_sortOf_37 : decode cMO_sortOf 37 = .ok (.goto 31, 3) := by decide +kernel
theorem dMO_sortOf_40 : decode cMO_sortOf 40 = .ok (.iload_n 3, 1) := by decide +kernel
theorem dMO_sortOf_41 : decode cMO_sortOf 41 = .ok (.ifCond .ne 7, 3) := by decide +kernel
theorem dMO_sortOf_44 : decode cMO_sortOf 44 = .ok (.iconst 3, 1) := by decide +kernel
theorem dMO_sortOf_45 : decode cMO_sortOf 45 = .ok (.goto 23, 3) := by decide +kernel
theorem dMO_sortOf_48 : decode cMO_sortOf 48 = .ok (.iload_n 3, 1) := by decide +kernel
theorem dMO_sortOf_49 : decode cMO_sortOf 49 = .ok (.iconst 1, 1) := by decide +kernel
theorem dMO_sortOf_50 : decode cMO_sortOf 50 = .ok (.if_icmp .ne 7, 3) := by decide +kernel
theorem dMO_sortOf_53 : decode cMO_sortOf 53 = .ok (.iconst 4, 1) := by decide +kernel
theorem dMO_sortOf_54 : decode cMO_sortOf 54 = .ok (.goto 14, 3) := by decide +kernel
theorem dMO_sortOf_57 : decode cMO_sortOf 57 = .ok (.iload_n 3, 1) := by decide +kernel
theorem dMO_sortOf_58 : decode cMO_sortOf 58 = .ok (.iconst 2, 1) := by decide +kernel
theorem dMO_sortOf_59 : decode cMO_sortOf 59 = .ok (.if_icmp .ne 8, 3) := by decide +kernel
theorem dMO_sortOf_62 : decode cMO_sortOf 62 = .ok (.bipush 6, 2) := by decide +kernel
theorem dMO_sortOf_64 : decode cMO_sortOf 64 = .ok (.goto 4, 3) := by decide +kernel
theorem dMO_sortOf_67 : decode cMO_sortOf 67 = .ok (.iconst 0, 1) := by decide +kernel
theorem dMO_sortOf_68 : decode cMO_sortOf 68 = .ok (.istore 4, 2) := by decide +kernel
theorem dMO_sortOf_70 : decode cMO_sortOf 70 = .ok (.iload_n 2, 1) := by decide +kernel
theorem dMO_sortOf_71 : decode cMO_sortOf 71 = .ok (.iload 4, 2) := by decide +kernel
theorem dMO_sortOf_73 : decode cMO_sortOf 73 = .ok (.imul, 1) := by decide +kernel
theorem dMO_sortOf_74 : decode cMO_sortOf 74 = .ok (.ireturn, 1) := by decide +kernel
theorem dMO_classBy_0 : decode cMO_classBy 0 = .ok (.iload_n 0, 1) := by decide +kernel
theorem dMO_classBy_1 : decode cMO_classBy 1 = .ok (.lookupswitch 466 #[(0, 99), (200, 268), (1000, 131), (1020, 210), (1202, 350), (3000, 175), (3200, 315), (3800, 408), (5020, 245), (7202, 385), (9860, 443)], 99) := by decide +kernel
theorem dMO_classBy_100 : decode cMO_classBy 100 = .ok (.iload_n 1, 1) := by decide +kernel
theorem dMO_classBy_101 : decode cMO_classBy 101 = .ok (.ifCond .ne 7, 3) := by decide +kernel
theorem dMO_classBy_104 : decode cMO_classBy 104 = .ok (.iconst 1, 1) := by decide +kernel
theorem dMO_classBy_105 : decode cMO_classBy 105 = .ok (.goto 26, 3) := by decide +kernel
theorem dMO_classBy_108 : decode cMO_classBy 108 = .ok (.iload_n 1, 1) := by decide +kernel
theorem dMO_classBy_109 : decode cMO_classBy 109 = .ok (.sipush 10000, 3) := by decide +kernel
theorem dMO_classBy_112 : decode cMO_classBy 112 = .ok (.if_icmp .ne 7, 3) := by decide +kernel
theorem dMO_classBy_115 : decode cMO_classBy 115 = .ok (.iconst 2, 1) := by decide +kernel
theorem dMO_classBy_116 : decode cMO_classBy 116 = .ok (.goto 15, 3) := by decide +kernel
theorem dMO_classBy_119 : decode cMO_classBy 119 = .ok (.iload_n 1, 1) := by decide +kernel
theorem dMO_classBy_120 : decode cMO_classBy 120 = .ok (.sipush 1000, 3) := by decide +kernel
theorem dMO_classBy_123 : decode cMO_classBy 123 = .ok (.if_icmp .ne 7, 3) := by decide +kernel
theorem dMO_classBy_126 : decode cMO_classBy 126 = .ok (.iconst 4, 1) := by decide +kernel
theorem dMO_classBy_127 : decode cMO_classBy 127 = .ok (.goto 4, 3) := by decide +kernel
theorem dMO_classBy_130 : decode cMO_classBy 130 = .ok (.iconst 0, 1) := by decide +kernel
theorem dMO_classBy_131 : decode cMO_classBy 131 = .ok (.ireturn, 1) := by decide +kernel
theorem dMO_classBy_132 : decode cMO_classBy 132 = .ok (.iload_n 1, 1) := by decide +kernel
theorem dMO_classBy_133 : decode cMO_classBy 133 = .ok (.ifCond .ne 7, 3) := by decide +kernel
theorem dMO_classBy_136 : decode cMO_classBy 136 = .ok (.iconst 3, 1) := by decide +kernel
theorem dMO_classBy_137 : decode cMO_classBy 137 = .ok (.goto 38, 3) := by decide +kernel
theorem dMO_classBy_140 : decode cMO_classBy 140 = .ok (.iload_n 1, 1) := by decide +kernel
theorem dMO_classBy_141 : decode cMO_classBy 141 = .ok (.sipush 11000, 3) := by decide +kernel
theorem dMO_classBy_144 : decode cMO_classBy 144 = .ok (.if_icmp .ne 7, 3) := by decide +kernel
theorem dMO_classBy_147 : decode cMO_classBy 147 = .ok (.iconst 5, 1) := by decide +kernel
theorem dMO_classBy_148 : decode cMO_classBy 148 = .ok (.goto 27, 3) := by decide +kernel
theorem dMO_classBy_151 : decode cMO_classBy 151 = .ok (.iload_n 1, 1) := by decide +kernel
theorem dMO_classBy_152 : decode cMO_classBy 152 = .ok (.sipush 2000, 3) := by decide +kernel
theorem dMO_classBy_155 : decode cMO_classBy 155 = .ok (.if_icmp .ne 8, 3) := by decide +kernel
theorem dMO_classBy_158 : decode cMO_classBy 158 = .ok (.bipush 7, 2) := by decide +kernel
theorem dMO_classBy_160 : decode cMO_classBy 160 = .ok (.goto 15, 3) := by decide +kernel
theorem dMO_classBy_163 : decode cMO_classBy 163 = .ok (.iload_n 1, 1) := by decide +kernel
theorem dMO_classBy_164 : decode cMO_classBy 164 = .ok (.bipush 20, 2) := by decide +kernel
theorem dMO_classBy_166 : decode cMO_classBy 166 = .ok (.if_icmp .ne 8, 3) := by decide +kernel
theorem dMO_classBy_169 : decode cMO_classBy 169 = .ok (.bipush 10, 2) := by decide +kernel
theorem dMO_classBy_171 : decode cMO_classBy 171 = .ok (.goto 4, 3) := by decide +kernel
theorem dMO_classBy_174 : decode cMO_classBy 174 = .ok (.iconst 0, 1) := by decide +kernel
theorem dMO_classBy_175 : decode cMO_classBy 175 = .ok (.ireturn, 1) := by decide +kernel
theorem dMO_classBy_176 : decode cMO_classBy 176 = .ok (.iload_n 1, 1) := by decide +kernel
theorem dMO_classBy_177 : decode cMO_classBy 177 = .ok (.ifCond .ne 8, 3) := by decide +kernel
theorem dMO_classBy_180 : decode cMO_classBy 180 = .ok (.bipush 6, 2) := by decide +kernel
theorem dMO_classBy_182 : decode cMO_classBy 182 = .ok (.goto 28, 3) := by decide +kernel
theorem dMO_classBy_185 : decode cMO_classBy 185 = .ok (.iload_n 1, 1) := by decide +kernel
theorem dMO_classBy_186 : decode cMO_classBy 186 = .ok (.sipush 13000, 3) := by decide +kernel
theorem dMO_classBy_189 : decode cMO_classBy 189 = .ok (.if_icmp .ne 8, 3) := by decide +kernel
theorem dMO_classBy_192 : decode cMO_classBy 192 = .ok (.bipush 8, 2) := by decide +kernel
theorem dMO_classBy_194 : decode cMO_classBy 194 = .ok (.goto 16, 3) := by decide +kernel
theorem dMO_classBy_197 : decode cMO_classBy 197 = .ok (.iload_n 1, 1) := by decide +kernel
theorem dMO_classBy_198 : decode cMO_classBy 198 = .ok (.sipush 2020, 3) := by decide +kernel
theorem dMO_classBy_201 : decode cMO_classBy 201 = .ok (.if_icmp .ne 8, 3) := by decide +kernel
theorem dMO_classBy_204 : decode cMO_classBy 204 = .ok (.bipush 14, 2) := by decide +kernel
theorem dMO_classBy_206 : decode cMO_classBy 206 = .ok (.goto 4, 3) := by decide +kernel
theorem dMO_classBy_209 : decode cMO_classBy 209 = .ok (.iconst 0, 1) := by decide +kernel
theorem dMO_classBy_210 : decode cMO_classBy 210 = .ok (.ireturn, 1) := by decide +kernel
theorem dMO_classBy_211 : decode cMO_classBy 211 = .ok (.iload_n 1, 1) := by decide +kernel
theorem dMO_classBy_212 : decode cMO_classBy 212 = .ok (.ifCond .ne 8, 3) := by decide +kernel
theorem dMO_classBy_215 : decode cMO_classBy 215 = .ok (.bipush 9, 2) := by decide +kernel
theorem dMO_classBy_217 : decode cMO_classBy 217 = .ok (.goto 28, 3) := by decide +kernel
theorem dMO_classBy_220 : decode cMO_classBy 220 = .ok (.iload_n 1, 1) := by decide +kernel
theorem dMO_classBy_221 : decode cMO_classBy 221 = .ok (.sipush 11020, 3) := by decide +kernel
theorem dMO_classBy_224 : decode cMO_classBy 224 = .ok (.if_icmp .ne 8, 3) := by decide +kernel
theorem dMO_classBy_227 : decode cMO_classBy 227 = .ok (.bipush 11, 2) := by decide +kernel
theorem dMO_classBy_229 : decode cMO_classBy 229 = .ok (.goto 16, 3) := by decide +kernel
theorem dMO_classBy_232 : decode cMO_classBy 232 = .ok (.iload_n 1, 1) := by decide +kernel
theorem dMO_classBy_233 : decode cMO_classBy 233 = .ok (.sipush 4000, 3) := by decide +kernel
theorem dMO_classBy_236 : decode cMO_classBy 236 = .ok (.if_icmp .ne 8, 3) := by decide +kernel
theorem dMO_classBy_239 : decode cMO_classBy 239 = .ok (.bipush 13, 2) := by decide +kernel
theorem dMO_classBy_241 : decode cMO_classBy 241 = .ok (.goto 4, 3) := by decide +kernel
theorem dMO_classBy_244 : decode cMO_classBy 244 = .ok (.iconst 0, 1) := by decide +kernel
theorem dMO_classBy_245 : decode cMO_classBy 245 = .ok (.ireturn, 1) := by decide +kernel
theorem dMO_classBy_246 : decode cMO_classBy 246 = .ok (.iload_n 1, 1) := by decide +kernel
theorem dMO_classBy_247 : decode cMO_classBy 247 = .ok (.ifCond .ne 8, 3) := by decide +kernel
theorem dMO_classBy_250 : decode cMO_classBy 250 = .ok (.bipush 12, 2) := by decide +kernel
theorem dMO_classBy_252 : decode cMO_classBy 252 = .ok (.goto 16, 3) := by decide +kernel
theorem dMO_classBy_255 : decode cMO_classBy 255 = .ok (.iload_n 1, 1) := by decide +kernel
theorem dMO_classBy_256 : decode cMO_classBy 256 = .ok (.sipush 15020, 3) := by decide +kernel
theorem dMO_classBy_259 : decode cMO_classBy 259 = .ok (.if_icmp .ne 8, 3) := by decide +kernel
theorem dMO_classBy_262 : decode cMO_classBy 262 = .ok (.bipush 15, 2) := by decide +kernel
theorem dMO_classBy_264 : decode cMO_classBy 264 = .ok (.goto 4, 3) := by decide +kernel
theorem dMO_classBy_267 : decode cMO_classBy 267 = .ok (.iconst 0, 1) := by decide +kernel
theorem dMO_classBy_268 : decode cMO_classBy 268 = .ok (.ireturn, 1) := by decide +kernel
theorem dMO_classBy_269 : decode cMO_classBy 269 = .ok (.iload_n 1, 1) := by decide +kernel
theorem dMO_classBy_270 : decode cMO_classBy 270 = .ok (.ifCond .ne 8, 3) := by decide +kernel
theorem dMO_classBy_273 : decode cMO_classBy 273 = .ok (.bipush 16, 2) := by decide +kernel
theorem dMO_classBy_275 : decode cMO_classBy 275 = .ok (.goto 40, 3) := by decide +kernel
theorem dMO_classBy_278 : decode cMO_classBy 278 = .ok (.iload_n 1, 1) := by decide +kernel
theorem dMO_classBy_279 : decode cMO_classBy 279 = .ok (.sipush 10200, 3) := by decide +kernel
theorem dMO_classBy_282 : decode cMO_classBy 282 = .ok (.if_icmp .ne 8, 3) := by decide +kernel
theorem dMO_classBy_285 : decode cMO_classBy 285 = .ok (.bipush 17, 2) := by decide +kernel
theorem dMO_classBy_287 : decode cMO_classBy 287 = .ok (.goto 28, 3) := by decide +kernel
theorem dMO_classBy_290 : decode cMO_classBy 290 = .ok (.iload_n 1, 1) := by decide +kernel
theorem dMO_classBy_291 : decode cMO_classBy 291 = .ok (.sipush 3000, 3) := by decide +kernel
theorem dMO_classBy_294 : decode cMO_classBy 294 = .ok (.if_icmp .ne 8, 3) := by decide +kernel
theorem dMO_classBy_297 : decode cMO_classBy 297 = .ok (.bipush 19, 2) := by decide +kernel
theorem dMO_classBy_299 : decode cMO_classBy 299 = .ok (.goto 16, 3) := by decide +kernel
theorem dMO_classBy_302 : decode cMO_classBy 302 = .ok (.iload_n 1, 1) := by decide +kernel
theorem dMO_classBy_303 : decode cMO_classBy 303 = .ok (.sipush 1002, 3) := by decide +kernel
theorem dMO_classBy_306 : decode cMO_classBy 306 = .ok (.if_icmp .ne 8, 3) := by decide +kernel
theorem dMO_classBy_309 : decode cMO_classBy 309 = .ok (.bipush 22, 2) := by decide +kernel
theorem dMO_classBy_311 : decode cMO_classBy 311 = .ok (.goto 4, 3) := by decide +kernel
theorem dMO_classBy_314 : decode cMO_classBy 314 = .ok (.iconst 0, 1) := by decide +kernel
theorem dMO_classBy_315 : decode cMO_classBy 315 = .ok (.ireturn, 1) := by decide +kernel
theorem dMO_classBy_316 : decode cMO_classBy 316 = .ok (.iload_n 1, 1) := by decide +kernel
theorem dMO_classBy_317 : decode cMO_classBy 317 = .ok (.ifCond .ne 8, 3) := by decide +kernel
theorem dMO_classBy_320 : decode cMO_classBy 320 = .ok (.bipush 18, 2) := by decide +kernel
theorem dMO_classBy_322 : decode cMO_classBy 322 = .ok (.goto 28, 3) := by decide +kernel
theorem dMO_classBy_325 : decode cMO_classBy 325 = .ok (.iload_n 1, 1) := by decide +kernel
theorem dMO_classBy_326 : decode cMO_classBy 326 = .ok (.sipush 13200, 3) := by decide +kernel
theorem dMO_classBy_329 : decode cMO_classBy 329 = .ok (.if_icmp .ne 8, 3) := by decide +kernel
theorem dMO_classBy_332 : decode cMO_classBy 332 = .ok (.bipush 20, 2) := by decide +kernel
theorem dMO_classBy_334 : decode cMO_classBy 334 = .ok (.goto 16, 3) := by decide +kernel
theorem dMO_classBy_337 : decode cMO_classBy 337 = .ok (.iload_n 1, 1) := by decide +kernel
theorem dMO_classBy_338 : decode cMO_classBy 338 = .ok (.sipush 4002, 3) := by decide +kernel
theorem dMO_classBy_341 : decode cMO_classBy 341 = .ok (.if_icmp .ne 8, 3) := by decide +kernel
theorem dMO_classBy_344 : decode cMO_classBy 344 = .ok (.bipush 26, 2) := by decide +kernel
theorem dMO_classBy_346 : decode cMO_classBy 346 = .ok (.goto 4, 3) := by decide +kernel
theorem dMO_classBy_349 : decode cMO_classBy 349 = .ok (.iconst 0, 1) := by decide +kernel
theorem dMO_classBy_350 : decode cMO_classBy 350 = .ok (.ireturn, 1) := by decide +kernel
theorem dMO_classBy_351 : decode cMO_classBy 351 = .ok (.iload_n 1, 1) := by decide +kernel
theorem dMO_classBy_352 : decode cMO_classBy 352 = .ok (.ifCond .ne 8, 3) := by decide +kernel
theorem dMO_classBy_355 : decode cMO_classBy 355 = .ok (.bipush 21, 2) := by decide +kernel
theorem dMO_classBy_357 : decode cMO_classBy 357 = .ok (.goto 28, 3) := by decide +kernel
theorem dMO_classBy_360 : decode cMO_classBy 360 = .ok (.iload_n 1, 1) := by decide +kernel
theorem dMO_classBy_361 : decode cMO_classBy 361 = .ok (.sipush 11202, 3) := by decide +kernel
theorem dMO_classBy_364 : decode cMO_classBy 364 = .ok (.if_icmp .ne 8, 3) := by decide +kernel
theorem dMO_classBy_367 : decode cMO_classBy 367 = .ok (.bipush 23, 2) := by decide +kernel
theorem dMO_classBy_369 : decode cMO_classBy 369 = .ok (.goto 16, 3) := by decide +kernel
theorem dMO_classBy_372 : decode cMO_classBy 372 = .ok (.iload_n 1, 1) := by decide +kernel
theorem dMO_classBy_373 : decode cMO_classBy 373 = .ok (.sipush 6000, 3) := by decide +kernel
theorem dMO_classBy_376 : decode cMO_classBy 376 = .ok (.if_icmp .ne 8, 3) := by decide +kernel
theorem dMO_classBy_379 : decode cMO_classBy 379 = .ok (.bipush 25, 2) := by decide +kernel
theorem dMO_classBy_381 : decode cMO_classBy 381 = .ok (.goto 4, 3) := by decide +kernel
theorem dMO_classBy_384 : decode cMO_classBy 384 = .ok (.iconst 0, 1) := by decide +kernel
theorem dMO_classBy_385 : decode cMO_classBy 385 = .ok (.ireturn, 1) := by decide +kernel
theorem dMO_classBy_386 : decode cMO_classBy 386 = .ok (.iload_n 1, 1) := by decide +kernel
theorem dMO_classBy_387 : decode cMO_classBy 387 = .ok (.ifCond .ne 8, 3) := by decide +kernel
theorem dMO_classBy_390 : decode cMO_classBy 390 = .ok (.bipush 24, 2) := by decide +kernel
theorem dMO_classBy_392 : decode cMO_classBy 392 = .ok (.goto 16, 3) := by decide +kernel
theorem dMO_classBy_395 : decode cMO_classBy 395 = .ok (.iload_n 1, 1) := by decide +kernel
theorem dMO_classBy_396 : decode cMO_classBy 396 = .ok (.sipush 17202, 3) := by decide +kernel
theorem dMO_classBy_399 : decode cMO_classBy 399 = .ok (.if_icmp .ne 8, 3) := by decide +kernel
theorem dMO_classBy_402 : decode cMO_classBy 402 = .ok (.bipush 27, 2) := by decide +kernel
theorem dMO_classBy_404 : decode cMO_classBy 404 = .ok (.goto 4, 3) := by decide +kernel
theorem dMO_classBy_407 : decode cMO_classBy 407 = .ok (.iconst 0, 1) := by decide +kernel
theorem dMO_classBy_408 : decode cMO_classBy 408 = .ok (.ireturn, 1) := by decide +kernel
theorem dMO_classBy_409 : decode cMO_classBy 409 = .ok (.iload_n 1, 1) := by decide +kernel
theorem dMO_classBy_410 : decode cMO_classBy 410 = .ok (.ifCond .ne 8, 3) := by decide +kernel
theorem dMO_classBy_413 : decode cMO_classBy 413 = .ok (.bipush 28, 2) := by decide +kernel
theorem dMO_classBy_415 : decode cMO_classBy 415 = .ok (.goto 28, 3) := by decide +kernel
theorem dMO_classBy_418 : decode cMO_classBy 418 = .ok (.iload_n 1, 1) := by decide +kernel
theorem dMO_classBy_419 : decode cMO_classBy 419 = .ok (.sipush 13800, 3) := by decide +kernel
theorem dMO_classBy_422 : decode cMO_classBy 422 = .ok (.if_icmp .ne 8, 3) := by decide +kernel
theorem dMO_classBy_425 : decode cMO_classBy 425 = .ok (.bipush 29, 2) := by decide +kernel
theorem dMO_classBy_427 : decode cMO_classBy 427 = .ok (.goto 16, 3) := by decide +kernel
theorem dMO_classBy_430 : decode cMO_classBy 430 = .ok (.iload_n 1, 1) := by decide +kernel
theorem dMO_classBy_431 : decode cMO_classBy 431 = .ok (.sipush 6060, 3) := by decide +kernel
theorem dMO_classBy_434 : decode cMO_classBy 434 = .ok (.if_icmp .ne 8, 3) := by decide +kernel
theorem dMO_classBy_437 : decode cMO_classBy 437 = .ok (.bipush 31, 2) := by decide +kernel
theorem dMO_classBy_439 : decode cMO_classBy 439 = .ok (.goto 4, 3) := by decide +kernel
theorem dMO_classBy_442 : decode cMO_classBy 442 = .ok (.iconst 0, 1) := by decide +kernel
theorem dMO_classBy_443 : decode cMO_classBy 443 = .ok (.ireturn, 1) := by decide +kernel
theorem dMO_classBy_444 : decode cMO_classBy 444 = .ok (.iload_n 1, 1) := by decide +kernel
theorem dMO_classBy_445 : decode cMO_classBy 445 = .ok (.ifCond .ne 8, 3) := by decide +kernel
theorem dMO_classBy_448 : decode cMO_classBy 448 = .ok (.bipush 30, 2) := by decide +kernel
theorem dMO_classBy_450 : decode cMO_classBy 450 = .ok (.goto 16, 3) := by decide +kernel
theorem dMO_classBy_453 : decode cMO_classBy 453 = .ok (.iload_n 1, 1) := by decide +kernel
theorem dMO_classBy_454 : decode cMO_classBy 454 = .ok (.sipush 19860, 3) := by decide +kernel
theorem dMO_classBy_457 : decode cMO_classBy 457 = .ok (.if_icmp .ne 8, 3) := by decide +kernel
theorem dMO_classBy_460 : decode cMO_classBy 460 = .ok (.bipush 32, 2) := by decide +kernel
theorem dMO_classBy_462 : decode cMO_classBy 462 = .ok (.goto 4, 3) := by decide +kernel
theorem dMO_classBy_465 : decode cMO_classBy 465 = .ok (.iconst 0, 1) := by decide +kernel
theorem dMO_classBy_466 : decode cMO_classBy 466 = .ok (.ireturn, 1) := by decide +kernel
theorem dMO_classBy_467 : decode cMO_classBy 467 = .ok (.iconst 0, 1) := by decide +kernel
theorem dMO_classBy_468 : decode cMO_classBy 468 = .ok (.ireturn, 1) := by decide +kernel
theorem dMO_know_0 : decode cMO_know 0 = .ok (.aload_n 0, 1) := by decide +kernel
theorem dMO_know_1 : decode cMO_know 1 = .ok (.getfield 43, 3) := by decide +kernel
theorem dMO_know_4 : decode cMO_know 4 = .ok (.iload_n 1, 1) := by decide +kernel
theorem dMO_know_5 : decode cMO_know 5 = .ok (.baload, 1) := by decide +kernel
theorem dMO_know_6 : decode cMO_know 6 = .ok (.ifCond .eq 4, 3) := by decide +kernel
theorem dMO_know_9 : decode cMO_know 9 = .ok (.return_, 1) := by decide +kernel
theorem dMO_know_10 : decode cMO_know 10 = .ok (.aload_n 0, 1) := by decide +kernel
theorem dMO_know_11 : decode cMO_know 11 = .ok (.getfield 43, 3) := by decide +kernel
theorem dMO_know_14 : decode cMO_know 14 = .ok (.iload_n 1, 1) := by decide +kernel
theorem dMO_know_15 : decode cMO_know 15 = .ok (.iconst 1, 1) := by decide +kernel
theorem dMO_know_16 : decode cMO_know 16 = .ok (.bastore, 1) := by decide +kernel
theorem dMO_know_17 : decode cMO_know 17 = .ok (.aload_n 0, 1) := by decide +kernel
theorem dMO_know_18 : decode cMO_know 18 = .ok (.getfield 28, 3) := by decide +kernel
theorem dMO_know_21 : decode cMO_know 21 = .ok (.iload_n 1, 1) := by decide +kernel
theorem dMO_know_22 : decode cMO_know 22 = .ok (.iaload, 1) := by decide +kernel
theorem dMO_know_23 : decode cMO_know 23 = .ok (.istore_n 2, 1) := by decide +kernel
theorem dMO_know_24 : decode cMO_know 24 = .ok (.iconst 0, 1) := by decide +kernel
theorem dMO_know_25 : decode cMO_know 25 = .ok (.istore_n 3, 1) := by decide +kernel
theorem dMO_know_26 : decode cMO_know 26 = .ok (.iload_n 3, 1) := by decide +kernel
theorem dMO_know_27 : decode cMO_know 27 = .ok (.iload_n 2, 1) := by decide +kernel
theorem dMO_know_28 : decode cMO_know 28 = .ok (.if_icmp .ge 71, 3) := by decide +kernel
theorem dMO_know_31 : decode cMO_know 31 = .ok (.iconst 0, 1) := by decide +kernel
theorem dMO_know_32 : decode cMO_know 32 = .ok (.istore 4, 2) := by decide +kernel
theorem dMO_know_34 : decode cMO_know 34 = .ok (.iload 4, 2) := by decide +kernel
theorem dMO_know_36 : decode cMO_know 36 = .ok (.iload_n 2, 1) := by decide +kernel
theorem dMO_know_37 : decode cMO_know 37 = .ok (.if_icmp .ge 56, 3) := by decide +kernel
theorem dMO_know_40 : decode cMO_know 40 = .ok (.aload_n 0, 1) := by decide +kernel
theorem dMO_know_41 : decode cMO_know 41 = .ok (.getfield 52, 3) := by decide +kernel
theorem dMO_know_44 : decode cMO_know 44 = .ok (.sipush 192, 3) := by decide +kernel
theorem dMO_know_47 : decode cMO_know 47 = .ok (.iload_n 3, 1) := by decide +kernel
theorem dMO_know_48 : decode cMO_know 48 = .ok (.imul, 1) := by decide +kernel
theorem dMO_know_49 : decode cMO_know 49 = .ok (.iload 4, 2) := by decide +kernel
theorem dMO_know_51 : decode cMO_know 51 = .ok (.iadd, 1) := by decide +kernel
theorem dMO_know_52 : decode cMO_know 52 = .ok (.aload_n 0, 1) := by decide +kernel
theorem dMO_know_53 : decode cMO_know 53 = .ok (.iload_n 1, 1) := by decide +kernel
theorem dMO_know_54 : decode cMO_know 54 = .ok (.aload_n 0, 1) := by decide +kernel
theorem dMO_know_55 : decode cMO_know 55 = .ok (.aload_n 0, 1) := by decide +kernel
theorem dMO_know_56 : decode cMO_know 56 = .ok (.getfield 25, 3) := by decide +kernel
theorem dMO_know_59 : decode cMO_know 59 = .ok (.sipush 192, 3) := by decide +kernel
theorem dMO_know_62 : decode cMO_know 62 = .ok (.iload_n 1, 1) := by decide +kernel
theorem dMO_know_63 : decode cMO_know 63 = .ok (.imul, 1) := by decide +kernel
theorem dMO_know_64 : decode cMO_know 64 = .ok (.iload_n 3, 1) := by decide +kernel
theorem dMO_know_65 : decode cMO_know 65 = .ok (.iadd, 1) := by decide +kernel
theorem dMO_know_66 : decode cMO_know 66 = .ok (.iaload, 1) := by decide +kernel
theorem dMO_know_67 : decode cMO_know 67 = .ok (.aload_n 0, 1) := by decide +kernel
theorem dMO_know_68 : decode cMO_know 68 = .ok (.getfield 25, 3) := by decide +kernel
theorem dMO_know_71 : decode cMO_know 71 = .ok (.sipush 192, 3) := by decide +kernel
theorem dMO_know_74 : decode cMO_know 74 = .ok (.iload_n 1, 1) := by decide +kernel
theorem dMO_know_75 : decode cMO_know 75 = .ok (.imul, 1) := by decide +kernel
theorem dMO_know_76 : decode cMO_know 76 = .ok (.iload 4, 2) := by decide +kernel
theorem dMO_know_78 : decode cMO_know 78 = .ok (.iadd, 1) := by decide +kernel
theorem dMO_know_79 : decode cMO_know 79 = .ok (.iaload, 1) := by decide +kernel
