/-! decode rows: written by wip/whole/names.py -/
theorem dGH_init_0 : decode cGH_init 0 = .ok (.aload_n 0, 1) := by decide +kernel
theorem dGH_init_1 : decode cGH_init 1 = .ok (.invokespecial 3, 3) := by decide +kernel
theorem dGH_init_4 : decode cGH_init 4 = .ok (.aload_n 0, 1) := by decide +kernel
theorem dGH_init_5 : decode cGH_init 5 = .ok (.bipush 40, 2) := by decide +kernel
theorem dGH_init_7 : decode cGH_init 7 = .ok (.anewarray 9, 3) := by decide +kernel
theorem dGH_init_10 : decode cGH_init 10 = .ok (.putfield 11, 3) := by decide +kernel
theorem dGH_init_13 : decode cGH_init 13 = .ok (.aload_n 0, 1) := by decide +kernel
theorem dGH_init_14 : decode cGH_init 14 = .ok (.iconst 0, 1) := by decide +kernel
theorem dGH_init_15 : decode cGH_init 15 = .ok (.putfield 15, 3) := by decide +kernel
theorem dGH_init_18 : decode cGH_init 18 = .ok (.aload_n 0, 1) := by decide +kernel
theorem dGH_init_19 : decode cGH_init 19 = .ok (.bipush 10, 2) := by decide +kernel
theorem dGH_init_21 : decode cGH_init 21 = .ok (.newarray .int, 2) := by decide +kernel
theorem dGH_init_23 : decode cGH_init 23 = .ok (.putfield 19, 3) := by decide +kernel
theorem dGH_init_26 : decode cGH_init 26 = .ok (.aload_n 0, 1) := by decide +kernel
theorem dGH_init_27 : decode cGH_init 27 = .ok (.iconst 0, 1) := by decide +kernel
theorem dGH_init_28 : decode cGH_init 28 = .ok (.putfield 23, 3) := by decide +kernel
theorem dGH_init_31 : decode cGH_init 31 = .ok (.aload_n 0, 1) := by decide +kernel
theorem dGH_init_32 : decode cGH_init 32 = .ok (.new 26, 3) := by decide +kernel
theorem dGH_init_35 : decode cGH_init 35 = .ok (.dup, 1) := by decide +kernel
theorem dGH_init_36 : decode cGH_init 36 = .ok (.invokespecial 28, 3) := by decide +kernel
theorem dGH_init_39 : decode cGH_init 39 = .ok (.putfield 29, 3) := by decide +kernel
theorem dGH_init_42 : decode cGH_init 42 = .ok (.aload_n 0, 1) := by decide +kernel
theorem dGH_init_43 : decode cGH_init 43 = .ok (.new 33, 3) := by decide +kernel
theorem dGH_init_46 : decode cGH_init 46 = .ok (.dup, 1) := by decide +kernel
theorem dGH_init_47 : decode cGH_init 47 = .ok (.aload_n 0, 1) := by decide +kernel
theorem dGH_init_48 : decode cGH_init 48 = .ok (.getfield 29, 3) := by decide +kernel
theorem dGH_init_51 : decode cGH_init 51 = .ok (.invokespecial 35, 3) := by decide +kernel
theorem dGH_init_54 : decode cGH_init 54 = .ok (.putfield 38, 3) := by decide +kernel
theorem dGH_init_57 : decode cGH_init 57 = .ok (.aload_n 0, 1) := by decide +kernel
theorem dGH_init_58 : decode cGH_init 58 = .ok (.new 42, 3) := by decide +kernel
theorem dGH_init_61 : decode cGH_init 61 = .ok (.dup, 1) := by decide +kernel
theorem dGH_init_62 : decode cGH_init 62 = .ok (.sipush 192, 3) := by decide +kernel
theorem dGH_init_65 : decode cGH_init 65 = .ok (.invokespecial 44, 3) := by decide +kernel
theorem dGH_init_68 : decode cGH_init 68 = .ok (.putfield 47, 3) := by decide +kernel
theorem dGH_init_71 : decode cGH_init 71 = .ok (.return_, 1) := by decide +kernel
theorem dGH_choose_0 : decode cGH_choose 0 = .ok (.aload_n 0, 1) := by decide +kernel
theorem dGH_choose_1 : decode cGH_choose 1 = .ok (.getfield 23, 3) := by decide +kernel
theorem dGH_choose_4 : decode cGH_choose 4 = .ok (.bipush 10, 2) := by decide +kernel
theorem dGH_choose_6 : decode cGH_choose 6 = .ok (.if_icmp .ge 17, 3) := by decide +kernel
theorem dGH_choose_9 : decode cGH_choose 9 = .ok (.iload_n 1, 1) := by decide +kernel
theorem dGH_choose_10 : decode cGH_choose 10 = .ok (.invokestatic 51, 3) := by decide +kernel
theorem dGH_choose_13 : decode cGH_choose 13 = .ok (.ifCond .eq 10, 3) := by decide +kernel
theorem dGH_choose_16 : decode cGH_choose 16 = .ok (.iload_n 2, 1) := by decide +kernel
theorem dGH_choose_17 : decode cGH_choose 17 = .ok (.invokestatic 55, 3) := by decide +kernel
theorem dGH_choose_20 : decode cGH_choose 20 = .ok (.ifCond .ne 5, 3) := by decide +kernel
theorem dGH_choose_23 : decode cGH_choose 23 = .ok (.iconst (-1), 1) := by decide +kernel
theorem dGH_choose_24 : decode cGH_choose 24 = .ok (.ireturn, 1) := by decide +kernel
theorem dGH_choose_25 : decode cGH_choose 25 = .ok (.iload_n 1, 1) := by decide +kernel
theorem dGH_choose_26 : decode cGH_choose 26 = .ok (.sipush 13824, 3) := by decide +kernel
theorem dGH_choose_29 : decode cGH_choose 29 = .ok (.imul, 1) := by decide +kernel
theorem dGH_choose_30 : decode cGH_choose 30 = .ok (.iload_n 2, 1) := by decide +kernel
theorem dGH_choose_31 : decode cGH_choose 31 = .ok (.iadd, 1) := by decide +kernel
theorem dGH_choose_32 : decode cGH_choose 32 = .ok (.istore_n 3, 1) := by decide +kernel
theorem dGH_choose_33 : decode cGH_choose 33 = .ok (.aload_n 0, 1) := by decide +kernel
theorem dGH_choose_34 : decode cGH_choose 34 = .ok (.getfield 29, 3) := by decide +kernel
theorem dGH_choose_37 : decode cGH_choose 37 = .ok (.iload_n 3, 1) := by decide +kernel
theorem dGH_choose_38 : decode cGH_choose 38 = .ok (.invokevirtual 58, 3) := by decide +kernel
theorem dGH_choose_41 : decode cGH_choose 41 = .ok (.istore 4, 2) := by decide +kernel
theorem dGH_choose_43 : decode cGH_choose 43 = .ok (.iload 4, 2) := by decide +kernel
theorem dGH_choose_45 : decode cGH_choose 45 = .ok (.iconst 1, 1) := by decide +kernel
theorem dGH_choose_46 : decode cGH_choose 46 = .ok (.if_icmp .eq 11, 3) := by decide +kernel
theorem dGH_choose_49 : decode cGH_choose 49 = .ok (.iload 4, 2) := by decide +kernel
theorem dGH_choose_51 : decode cGH_choose 51 = .ok (.iconst (-1), 1) := by decide +kernel
theorem dGH_choose_52 : decode cGH_choose 52 = .ok (.if_icmp .eq 5, 3) := by decide +kernel
theorem dGH_choose_55 : decode cGH_choose 55 = .ok (.iconst (-1), 1) := by decide +kernel
theorem dGH_choose_56 : decode cGH_choose 56 = .ok (.ireturn, 1) := by decide +kernel
theorem dGH_choose_57 : decode cGH_choose 57 = .ok (.aload_n 0, 1) := by decide +kernel
theorem dGH_choose_58 : decode cGH_choose 58 = .ok (.getfield 19, 3) := by decide +kernel
theorem dGH_choose_61 : decode cGH_choose 61 = .ok (.aload_n 0, 1) := by decide +kernel
theorem dGH_choose_62 : decode cGH_choose 62 = .ok (.getfield 23, 3) := by decide +kernel
theorem dGH_choose_65 : decode cGH_choose 65 = .ok (.iload_n 3, 1) := by decide +kernel
theorem dGH_choose_66 : decode cGH_choose 66 = .ok (.iastore, 1) := by decide +kernel
theorem dGH_choose_67 : decode cGH_choose 67 = .ok (.aload_n 0, 1) := by decide +kernel
theorem dGH_choose_68 : decode cGH_choose 68 = .ok (.dup, 1) := by decide +kernel
theorem dGH_choose_69 : decode cGH_choose 69 = .ok (.getfield 23, 3) := by decide +kernel
theorem dGH_choose_72 : decode cGH_choose 72 = .ok (.iconst 1, 1) := by decide +kernel
theorem dGH_choose_73 : decode cGH_choose 73 = .ok (.iadd, 1) := by decide +kernel
theorem dGH_choose_74 : decode cGH_choose 74 = .ok (.putfield 23, 3) := by decide +kernel
theorem dGH_choose_77 : decode cGH_choose 77 = .ok (.aload_n 0, 1) := by decide +kernel
theorem dGH_choose_78 : decode cGH_choose 78 = .ok (.getfield 23, 3) := by decide +kernel
theorem dGH_choose_81 : decode cGH_choose 81 = .ok (.ireturn, 1) := by decide +kernel
theorem dGH_isNine_0 : decode cGH_isNine 0 = .ok (.iload_n 0, 1) := by decide +kernel
theorem dGH_isNine_1 : decode cGH_isNine 1 = .ok (.ifCond .lt 14, 3) := by decide +kernel
theorem dGH_isNine_4 : decode cGH_isNine 4 = .ok (.iload_n 0, 1) := by decide +kernel
theorem dGH_isNine_5 : decode cGH_isNine 5 = .ok (.sipush 19683, 3) := by decide +kernel
theorem dGH_isNine_8 : decode cGH_isNine 8 = .ok (.if_icmp .ge 7, 3) := by decide +kernel
theorem dGH_isNine_11 : decode cGH_isNine 11 = .ok (.iconst 1, 1) := by decide +kernel
theorem dGH_isNine_12 : decode cGH_isNine 12 = .ok (.goto 4, 3) := by decide +kernel
theorem dGH_isNine_15 : decode cGH_isNine 15 = .ok (.iconst 0, 1) := by decide +kernel
theorem dGH_isNine_16 : decode cGH_isNine 16 = .ok (.ireturn, 1) := by decide +kernel
theorem dGH_isPlace_0 : decode cGH_isPlace 0 = .ok (.iload_n 0, 1) := by decide +kernel
theorem dGH_isPlace_1 : decode cGH_isPlace 1 = .ok (.ifCond .lt 14, 3) := by decide +kernel
theorem dGH_isPlace_4 : decode cGH_isPlace 4 = .ok (.iload_n 0, 1) := by decide +kernel
theorem dGH_isPlace_5 : decode cGH_isPlace 5 = .ok (.sipush 13824, 3) := by decide +kernel
theorem dGH_isPlace_8 : decode cGH_isPlace 8 = .ok (.if_icmp .ge 7, 3) := by decide +kernel
theorem dGH_isPlace_11 : decode cGH_isPlace 11 = .ok (.iconst 1, 1) := by decide +kernel
theorem dGH_isPlace_12 : decode cGH_isPlace 12 = .ok (.goto 4, 3) := by decide +kernel
theorem dGH_isPlace_15 : decode cGH_isPlace 15 = .ok (.iconst 0, 1) := by decide +kernel
theorem dGH_isPlace_16 : decode cGH_isPlace 16 = .ok (.ireturn, 1) := by decide +kernel
theorem dGH_group_0 : decode cGH_group 0 = .ok (.aload_n 0, 1) := by decide +kernel
theorem dGH_group_1 : decode cGH_group 1 = .ok (.getfield 38, 3) := by decide +kernel
theorem dGH_group_4 : decode cGH_group 4 = .ok (.invokevirtual 62, 3) := by decide +kernel
theorem dGH_group_7 : decode cGH_group 7 = .ok (.iconst 1, 1) := by decide +kernel
theorem dGH_group_8 : decode cGH_group 8 = .ok (.istore_n 1, 1) := by decide +kernel
theorem dGH_group_9 : decode cGH_group 9 = .ok (.iconst 0, 1) := by decide +kernel
theorem dGH_group_10 : decode cGH_group 10 = .ok (.istore_n 2, 1) := by decide +kernel
theorem dGH_group_11 : decode cGH_group 11 = .ok (.iload_n 1, 1) := by decide +kernel
theorem dGH_group_12 : decode cGH_group 12 = .ok (.ifCond .eq 37, 3) := by decide +kernel
theorem dGH_group_15 : decode cGH_group 15 = .ok (.iload_n 2, 1) := by decide +kernel
theorem dGH_group_16 : decode cGH_group 16 = .ok (.aload_n 0, 1) := by decide +kernel
theorem dGH_group_17 : decode cGH_group 17 = .ok (.getfield 23, 3) := by decide +kernel
theorem dGH_group_20 : decode cGH_group 20 = .ok (.if_icmp .ge 29, 3) := by decide +kernel
theorem dGH_group_23 : decode cGH_group 23 = .ok (.iload_n 2, 1) := by decide +kernel
theorem dGH_group_24 : decode cGH_group 24 = .ok (.bipush 10, 2) := by decide +kernel
theorem dGH_group_26 : decode cGH_group 26 = .ok (.if_icmp .ge 23, 3) := by decide +kernel
theorem dGH_group_29 : decode cGH_group 29 = .ok (.aload_n 0, 1) := by decide +kernel
theorem dGH_group_30 : decode cGH_group 30 = .ok (.getfield 38, 3) := by decide +kernel
theorem dGH_group_33 : decode cGH_group 33 = .ok (.aload_n 0, 1) := by decide +kernel
theorem dGH_group_34 : decode cGH_group 34 = .ok (.getfield 19, 3) := by decide +kernel
theorem dGH_group_37 : decode cGH_group 37 = .ok (.iload_n 2, 1) := by decide +kernel
theorem dGH_group_38 : decode cGH_group 38 = .ok (.iaload, 1) := by decide +kernel
theorem dGH_group_39 : decode cGH_group 39 = .ok (.invokevirtual 65, 3) := by decide +kernel
theorem dGH_group_42 : decode cGH_group 42 = .ok (.istore_n 1, 1) := by decide +kernel
theorem dGH_group_43 : decode cGH_group 43 = .ok (.iinc 2 1, 3) := by decide +kernel
theorem dGH_group_46 : decode cGH_group 46 = .ok (.goto (-35), 3) := by decide +kernel
theorem dGH_group_49 : decode cGH_group 49 = .ok (.aload_n 0, 1) := by decide +kernel
theorem dGH_group_50 : decode cGH_group 50 = .ok (.iconst 0, 1) := by decide +kernel
theorem dGH_group_51 : decode cGH_group 51 = .ok (.putfield 23, 3) := by decide +kernel
theorem dGH_group_54 : decode cGH_group 54 = .ok (.iload_n 1, 1) := by decide +kernel
theorem dGH_group_55 : decode cGH_group 55 = .ok (.ifCond .eq 17, 3) := by decide +kernel
theorem dGH_group_58 : decode cGH_group 58 = .ok (.aload_n 0, 1) := by decide +kernel
theorem dGH_group_59 : decode cGH_group 59 = .ok (.aload_n 0, 1) := by decide +kernel
theorem dGH_group_60 : decode cGH_group 60 = .ok (.getfield 38, 3) := by decide +kernel
theorem dGH_group_63 : decode cGH_group 63 = .ok (.invokevirtual 68, 3) := by decide +kernel
theorem dGH_group_66 : decode cGH_group 66 = .ok (.invokevirtual 72, 3) := by decide +kernel
theorem dGH_group_69 : decode cGH_group 69 = .ok (.goto 4, 3) := by decide +kernel
theorem dGH_group_72 : decode cGH_group 72 = .ok (.iconst (-1), 1) := by decide +kernel
theorem dGH_group_73 : decode cGH_group 73 = .ok (.ireturn, 1) := by decide +kernel
theorem dGH_numberOf_0 : decode cGH_numberOf 0 = .ok (.iconst 0, 1) := by decide +kernel
theorem dGH_numberOf_1 : decode cGH_numberOf 1 = .ok (.istore_n 2, 1) := by decide +kernel
theorem dGH_numberOf_2 : decode cGH_numberOf 2 = .ok (.iload_n 2, 1) := by decide +kernel
theorem dGH_numberOf_3 : decode cGH_numberOf 3 = .ok (.aload_n 0, 1) := by decide +kernel
theorem dGH_numberOf_4 : decode cGH_numberOf 4 = .ok (.getfield 15, 3) := by decide +kernel
theorem dGH_numberOf_7 : decode cGH_numberOf 7 = .ok (.if_icmp .ge 32, 3) := by decide +kernel
theorem dGH_numberOf_10 : decode cGH_numberOf 10 = .ok (.aload_n 0, 1) := by decide +kernel
theorem dGH_numberOf_11 : decode cGH_numberOf 11 = .ok (.iload_n 2, 1) := by decide +kernel
theorem dGH_numberOf_12 : decode cGH_numberOf 12 = .ok (.invokevirtual 76, 3) := by decide +kernel
theorem dGH_numberOf_15 : decode cGH_numberOf 15 = .ok (.astore_n 3, 1) := by decide +kernel
theorem dGH_numberOf_16 : decode cGH_numberOf 16 = .ok (.aload_n 3, 1) := by decide +kernel
theorem dGH_numberOf_17 : decode cGH_numberOf 17 = .ok (.ifnull 16, 3) := by decide +kernel
theorem dGH_numberOf_20 : decode cGH_numberOf 20 = .ok (.aload_n 3, 1) := by decide +kernel
theorem dGH_numberOf_21 : decode cGH_numberOf 21 = .ok (.invokevirtual 80, 3) := by decide +kernel
theorem dGH_numberOf_24 : decode cGH_numberOf 24 = .ok (.aload_n 1, 1) := by decide +kernel
theorem dGH_numberOf_25 : decode cGH_numberOf 25 = .ok (.invokevirtual 158, 3) := by decide +kernel
theorem dGH_numberOf_28 : decode cGH_numberOf 28 = .ok (.ifCond .eq 5, 3) := by decide +kernel
theorem dGH_numberOf_31 : decode cGH_numberOf 31 = .ok (.iload_n 2, 1) := by decide +kernel
theorem dGH_numberOf_32 : decode cGH_numberOf 32 = .ok (.ireturn, 1) := by decide +kernel
theorem dGH_numberOf_33 : decode cGH_numberOf 33 = .ok (.iinc 2 1, 3) := by decide +kernel
theorem dGH_numberOf_36 : decode cGH_numberOf 36 = .ok (.goto (-34), 3) := by decide +kernel
theorem dGH_numberOf_39 : decode cGH_numberOf 39 = .ok (.aload_n 0, 1) := by decide +kernel
theorem dGH_numberOf_40 : decode cGH_numberOf 40 = .ok (.getfield 15, 3) := by decide +kernel
theorem dGH_numberOf_43 : decode cGH_numberOf 43 = .ok (.bipush 40, 2) := by decide +kernel
theorem dGH_numberOf_45 : decode cGH_numberOf 45 = .ok (.if_icmp .lt 5, 3) := by decide +kernel
theorem dGH_numberOf_48 : decode cGH_numberOf 48 = .ok (.iconst (-1), 1) := by decide +kernel
theorem dGH_numberOf_49 : decode cGH_numberOf 49 = .ok (.ireturn, 1) := by decide +kernel
theorem dGH_numberOf_50 : decode cGH_numberOf 50 = .ok (.aload_n 0, 1) := by decide +kernel
theorem dGH_numberOf_51 : decode cGH_numberOf 51 = .ok (.getfield 11, 3) := by decide +kernel
theorem dGH_numberOf_54 : decode cGH_numberOf 54 = .ok (.aload_n 0, 1) := by decide +kernel
theorem dGH_numberOf_55 : decode cGH_numberOf 55 = .ok (.getfield 15, 3) := by decide +kernel
theorem dGH_numberOf_58 : decode cGH_numberOf 58 = .ok (.new 9, 3) := by decide +kernel
theorem dGH_numberOf_61 : decode cGH_numberOf 61 = .ok (.dup, 1) := by decide +kernel
theorem dGH_numberOf_62 : decode cGH_numberOf 62 = .ok (.aload_n 1, 1) := by decide +kernel
theorem dGH_numberOf_63 : decode cGH_numberOf 63 = .ok (.aload_n 0, 1) := by decide +kernel
theorem dGH_numberOf_64 : decode cGH_numberOf 64 = .ok (.getfield 29, 3) := by decide +kernel
theorem dGH_numberOf_67 : decode cGH_numberOf 67 = .ok (.invokespecial 162, 3) := by decide +kernel
theorem dGH_numberOf_70 : decode cGH_numberOf 70 = .ok (.aastore, 1) := by decide +kernel
theorem dGH_numberOf_71 : decode cGH_numberOf 71 = .ok (.aload_n 0, 1) := by decide +kernel
theorem dGH_numberOf_72 : decode cGH_numberOf 72 = .ok (.dup, 1) := by decide +kernel
theorem dGH_numberOf_73 : decode cGH_numberOf 73 = .ok (.getfield 15, 3) := by decide +kernel
theorem dGH_numberOf_76 : decode cGH_numberOf 76 = .ok (.iconst 1, 1) := by decide +kernel
theorem dGH_numberOf_77 : decode cGH_numberOf 77 = .ok (.iadd, 1) := by decide +kernel
theorem dGH_numberOf_78 : decode cGH_numberOf 78 = .ok (.putfield 15, 3) := by decide +kernel
theorem dGH_numberOf_81 : decode cGH_numberOf 81 = .ok (.aload_n 0, 1) := by decide +kernel
theorem dGH_numberOf_82 : decode cGH_numberOf 82 = .ok (.getfield 15, 3) := by decide +kernel
theorem dGH_numberOf_85 : decode cGH_numberOf 85 = .ok (.iconst 1, 1) := by decide +kernel
theorem dGH_numberOf_86 : decode cGH_numberOf 86 = .ok (.isub, 1) := by decide +kernel
theorem dGH_numberOf_87 : decode cGH_numberOf 87 = .ok (.ireturn, 1) := by decide +kernel
theorem dGH_hallAt_0 : decode cGH_hallAt 0 = .ok (.iload_n 1, 1) := by decide +kernel
theorem dGH_hallAt_1 : decode cGH_hallAt 1 = .ok (.ifCond .lt 26, 3) := by decide +kernel
theorem dGH_hallAt_4 : decode cGH_hallAt 4 = .ok (.iload_n 1, 1) := by decide +kernel
theorem dGH_hallAt_5 : decode cGH_hallAt 5 = .ok (.aload_n 0, 1) := by decide +kernel
theorem dGH_hallAt_6 : decode cGH_hallAt 6 = .ok (.getfield 15, 3) := by decide +kernel
theorem dGH_hallAt_9 : decode cGH_hallAt 9 = .ok (.if_icmp .ge 18, 3) := by decide +kernel
theorem dGH_hallAt_12 : decode cGH_hallAt 12 = .ok (.iload_n 1, 1) := by decide +kernel
theorem dGH_hallAt_13 : decode cGH_hallAt 13 = .ok (.bipush 40, 2) := by decide +kernel
theorem dGH_hallAt_15 : decode cGH_hallAt 15 = .ok (.if_icmp .ge 12, 3) := by decide +kernel
theorem dGH_hallAt_18 : decode cGH_hallAt 18 = .ok (.aload_n 0, 1) := by decide +kernel
theorem dGH_hallAt_19 : decode cGH_hallAt 19 = .ok (.getfield 11, 3) := by decide +kernel
theorem dGH_hallAt_22 : decode cGH_hallAt 22 = .ok (.iload_n 1, 1) := by decide +kernel
theorem dGH_hallAt_23 : decode cGH_hallAt 23 = .ok (.aaload, 1) := by decide +kernel
theorem dGH_hallAt_24 : decode cGH_hallAt 24 = .ok (.goto 4, 3) := by decide +kernel
theorem dGH_hallAt_27 : decode cGH_hallAt 27 = .ok (.aconst_null, 1) := by decide +kernel
theorem dGH_hallAt_28 : decode cGH_hallAt 28 = .ok (.areturn, 1) := by decide +kernel
theorem dGH_classOf_0 : decode cGH_classOf 0 = .ok (.iconst 0, 1) := by decide +kernel
theorem dGH_classOf_1 : decode cGH_classOf 1 = .ok (.istore_n 2, 1) := by decide +kernel
theorem dGH_classOf_2 : decode cGH_classOf 2 = .ok (.iconst (-1), 1) := by decide +kernel
theorem dGH_classOf_3 : decode cGH_classOf 3 = .ok (.istore_n 3, 1) := by decide +kernel
theorem dGH_classOf_4 : decode cGH_classOf 4 = .ok (.iconst 0, 1) := by decide +kernel
theorem dGH_classOf_5 : decode cGH_classOf 5 = .ok (.istore 4, 2) := by decide +kernel
theorem dGH_classOf_7 : decode cGH_classOf 7 = .ok (.iload 4, 2) := by decide +kernel
theorem dGH_classOf_9 : decode cGH_classOf 9 = .ok (.aload_n 0, 1) := by decide +kernel
theorem dGH_classOf_10 : decode cGH_classOf 10 = .ok (.invokevirtual 83, 3) := by decide +kernel
theorem dGH_classOf_13 : decode cGH_classOf 13 = .ok (.if_icmp .ge 46, 3) := by decide +kernel
theorem dGH_classOf_16 : decode cGH_classOf 16 = .ok (.aload_n 0, 1) := by decide +kernel
theorem dGH_classOf_17 : decode cGH_classOf 17 = .ok (.iload 4, 2) := by decide +kernel
theorem dGH_classOf_19 : decode cGH_classOf 19 = .ok (.invokevirtual 115, 3) := by decide +kernel
theorem dGH_classOf_22 : decode cGH_classOf 22 = .ok (.sipush 13824, 3) := by decide +kernel
theorem dGH_classOf_25 : decode cGH_classOf 25 = .ok (.idiv, 1) := by decide +kernel
theorem dGH_classOf_26 : decode cGH_classOf 26 = .ok (.istore 5, 2) := by decide +kernel
theorem dGH_classOf_28 : decode cGH_classOf 28 = .ok (.iload 5, 2) := by decide +kernel
theorem dGH_classOf_30 : decode cGH_classOf 30 = .ok (.iload_n 3, 1) := by decide +kernel
theorem dGH_classOf_31 : decode cGH_classOf 31 = .ok (.if_icmp .eq 19, 3) := by decide +kernel
theorem dGH_classOf_34 : decode cGH_classOf 34 = .ok (.iload_n 2, 1) := by decide +kernel
theorem dGH_classOf_35 : decode cGH_classOf 35 = .ok (.aload_n 1, 1) := by decide +kernel
theorem dGH_classOf_36 : decode cGH_classOf 36 = .ok (.aload_n 0, 1) := by decide +kernel
theorem dGH_classOf_37 : decode cGH_classOf 37 = .ok (.iload 4, 2) := by decide +kernel
theorem dGH_classOf_39 : decode cGH_classOf 39 = .ok (.invokevirtual 115, 3) := by decide +kernel
theorem dGH_classOf_42 : decode cGH_classOf 42 = .ok (.invokevirtual 118, 3) := by decide +kernel
theorem dGH_classOf_45 : decode cGH_classOf 45 = .ok (.invokestatic 168, 3) := by decide +kernel
theorem dGH_classOf_48 : decode cGH_classOf 48 = .ok (.iadd, 1) := by decide +kernel
theorem dGH_classOf_49 : decode cGH_classOf 49 = .ok (.istore_n 2, 1) := by decide +kernel
theorem dGH_classOf_50 : decode cGH_classOf 50 = .ok (.iload 5, 2) := by decide +kernel
theorem dGH_classOf_52 : decode cGH_classOf 52 = .ok (.istore_n 3, 1) := by decide +kernel
theorem dGH_classOf_53 : decode cGH_classOf 53 = .ok (.iinc 4 1, 3) := by decide +kernel
theorem dGH_classOf_56 : decode cGH_classOf 56 = .ok (.goto (-49), 3) := by decide +kernel
theorem dGH_classOf_59 : decode cGH_classOf 59 = .ok (.iconst 0, 1) := by decide +kernel
theorem dGH_classOf_60 : decode cGH_classOf 60 = .ok (.istore 4, 2) := by decide +kernel
theorem dGH_classOf_62 : decode cGH_classOf 62 = .ok (.iload 4, 2) := by decide +kernel
theorem dGH_classOf_64 : decode cGH_classOf 64 = .ok (.getstatic 171, 3) := by decide +kernel
theorem dGH_classOf_67 : decode cGH_classOf 67 = .ok (.arraylength, 1) := by decide +kernel
theorem dGH_classOf_68 : decode cGH_classOf 68 = .ok (.if_icmp .ge 24, 3) := by decide +kernel
theorem dGH_classOf_71 : decode cGH_classOf 71 = .ok (.getstatic 171, 3) := by decide +kernel
theorem dGH_classOf_74 : decode cGH_classOf 74 = .ok (.iload 4, 2) := by decide +kernel
theorem dGH_classOf_76 : decode cGH_classOf 76 = .ok (.iaload, 1) := by decide +kernel
theorem dGH_classOf_77 : decode cGH_classOf 77 = .ok (.iload_n 2, 1) := by decide +kernel
theorem dGH_classOf_78 : decode cGH_classOf 78 = .ok (.if_icmp .ne 8, 3) := by decide +kernel
theorem dGH_classOf_81 : decode cGH_classOf 81 = .ok (.iload 4, 2) := by decide +kernel
theorem dGH_classOf_83 : decode cGH_classOf 83 = .ok (.iconst 1, 1) := by decide +kernel
theorem dGH_classOf_84 : decode cGH_classOf 84 = .ok (.iadd, 1) := by decide +kernel
theorem dGH_classOf_85 : decode cGH_classOf 85 = .ok (.ireturn, 1) := by decide +kernel
theorem dGH_classOf_86 : decode cGH_classOf 86 = .ok (.iinc 4 1, 3) := by decide +kernel
theorem dGH_classOf_89 : decode cGH_classOf 89 = .ok (.goto (-27), 3) := by decide +kernel
theorem dGH_classOf_92 : decode cGH_classOf 92 = .ok (.iconst (-1), 1) := by decide +kernel
theorem dGH_classOf_93 : decode cGH_classOf 93 = .ok (.ireturn, 1) := by decide +kernel
theorem dGH_digitOf_0 : decode cGH_digitOf 0 = .ok (.iload_n 0, 1) := by decide +kernel
theorem dGH_digitOf_1 : decode cGH_digitOf 1 = .ok (.tableswitch 95 (-6) 6 #[93, 95, 90, 87, 83, 79, 95, 95, 67, 70, 73, 95, 76], 67) := by decide +kernel
theorem dGH_digitOf_68 : decode cGH_digitOf 68 = .ok (.ldc 174, 2) := by decide +kernel
theorem dGH_digitOf_70 : decode cGH_digitOf 70 = .ok (.ireturn, 1) := by decide +kernel
theorem dGH_digitOf_71 : decode cGH_digitOf 71 = .ok (.ldc 175, 2) := by decide +kernel
theorem dGH_digitOf_73 : decode cGH_digitOf 73 = .ok (.ireturn, 1) := by decide +kernel
theorem dGH_digitOf_74 : decode cGH_digitOf 74 = .ok (.ldc 176, 2) := by decide +kernel
theorem dGH_digitOf_76 : decode cGH_digitOf 76 = .ok (.ireturn, 1) := by decide +kernel
theorem dGH_digitOf_77 : decode cGH_digitOf 77 = .ok (.ldc 177, 2) := by decide +kernel
theorem dGH_digitOf_79 : decode cGH_digitOf 79 = .ok (.ireturn, 1) := by decide +kernel
theorem dGH_digitOf_80 : decode cGH_digitOf 80 = .ok (.sipush 10000, 3) := by decide +kernel
theorem dGH_digitOf_83 : decode cGH_digitOf 83 = .ok (.ireturn, 1) := by decide +kernel
theorem dGH_digitOf_84 : decode cGH_digitOf 84 = .ok (.sipush 1000, 3) := by decide +kernel
theorem dGH_digitOf_87 : decode cGH_digitOf 87 = .ok (.ireturn, 1) := by decide +kernel
theorem dGH_digitOf_88 : decode cGH_digitOf 88 = .ok (.bipush 100, 2) := by decide +kernel
theorem dGH_digitOf_90 : decode cGH_digitOf 90 = .ok (.ireturn, 1) := by decide +kernel
theorem dGH_digitOf_91 : decode cGH_digitOf 91 = .ok (.bipush 10, 2) := by decide +kernel
theorem dGH_digitOf_93 : decode cGH_digitOf 93 = .ok (.ireturn, 1) := by decide +kernel
theorem dGH_digitOf_94 : decode cGH_digitOf 94 = .ok (.iconst 1, 1) := by decide +kernel
theorem dGH_digitOf_95 : decode cGH_digitOf 95 = .ok (.ireturn, 1) := by decide +kernel
theorem dGH_digitOf_96 : decode cGH_digitOf 96 = .ok (.iconst 0, 1) := by decide +kernel
theorem dGH_digitOf_97 : decode cGH_digitOf 97 = .ok (.ireturn, 1) := by decide +kernel
theorem dGH_about_0 : decode cGH_about 0 = .ok (.aload_n 0, 1) := by decide +kernel
theorem dGH_about_1 : decode cGH_about 1 = .ok (.iload_n 1, 1) := by decide +kernel
theorem dGH_about_2 : decode cGH_about 2 = .ok (.invokevirtual 76, 3) := by decide +kernel
theorem dGH_about_5 : decode cGH_about 5 = .ok (.astore_n 3, 1) := by decide +kernel
theorem dGH_about_6 : decode cGH_about 6 = .ok (.aload_n 3, 1) := by decide +kernel
theorem dGH_about_7 : decode cGH_about 7 = .ok (.ifnonnull 5, 3) := by decide +kernel
theorem dGH_about_10 : decode cGH_about 10 = .ok (.iconst (-1), 1) := by decide +kernel
theorem dGH_about_11 : decode cGH_about 11 = .ok (.ireturn, 1) := by decide +kernel
theorem dGH_about_12 : decode cGH_about 12 = .ok (.iload_n 2, 1) := by decide +kernel
theorem dGH_about_13 : decode cGH_about 13 = .ok (.tableswitch 103 0 6 #[43, 51, 56, 61, 66, 71, 87], 43) := by decide +kernel
theorem dGH_about_56 : decode cGH_about 56 = .ok (.aload_n 3, 1) := by decide +kernel
theorem dGH_about_57 : decode cGH_about 57 = .ok (.invokevirtual 80, 3) := by decide +kernel
theorem dGH_about_60 : decode cGH_about 60 = .ok (.invokevirtual 83, 3) := by decide +kernel
theorem dGH_about_63 : decode cGH_about 63 = .ok (.ireturn, 1) := by decide +kernel
theorem dGH_about_64 : decode cGH_about 64 = .ok (.aload_n 3, 1) := by decide +kernel
theorem dGH_about_65 : decode cGH_about 65 = .ok (.invokevirtual 87, 3) := by decide +kernel
theorem dGH_about_68 : decode cGH_about 68 = .ok (.ireturn, 1) := by decide +kernel
theorem dGH_about_69 : decode cGH_about 69 = .ok (.aload_n 3, 1) := by decide +kernel
theorem dGH_about_70 : decode cGH_about 70 = .ok (.invokevirtual 90, 3) := by decide +kernel
theorem dGH_about_73 : decode cGH_about 73 = .ok (.ireturn, 1) := by decide +kernel
theorem dGH_about_74 : decode cGH_about 74 = .ok (.aload_n 3, 1) := by decide +kernel
theorem dGH_about_75 : decode cGH_about 75 = .ok (.invokevirtual 93, 3) := by decide +kernel
theorem dGH_about_78 : decode cGH_about 78 = .ok (.ireturn, 1) := by decide +kernel
theorem dGH_about_79 : decode cGH_about 79 = .ok (.aload_n 3, 1) := by decide +kernel
theorem dGH_about_80 : decode cGH_about 80 = .ok (.invokevirtual 96, 3) := by decide +kernel
theorem dGH_about_83 : decode cGH_about 83 = .ok (.ireturn, 1) := by decide +kernel
theorem dGH_about_84 : decode cGH_about 84 = .ok (.aload_n 3, 1) := by decide +kernel
theorem dGH_about_85 : decode cGH_about 85 = .ok (.aload_n 0, 1) := by decide +kernel
theorem dGH_about_86 : decode cGH_about 86 = .ok (.getfield 29, 3) := by decide +kernel
theorem dGH_about_89 : decode cGH_about 89 = .ok (.aload_n 0, 1) := by decide +kernel
theorem dGH_about_90 : decode cGH_about 90 = .ok (.getfield 38, 3) := by decide +kernel
theorem dGH_about_93 : decode cGH_about 93 = .ok (.invokevirtual 99, 3) := by decide +kernel
theorem dGH_about_96 : decode cGH_about 96 = .ok (.invokevirtual 103, 3) := by decide +kernel
theorem dGH_about_99 : decode cGH_about 99 = .ok (.ireturn, 1) := by decide +kernel
theorem dGH_about_100 : decode cGH_about 100 = .ok (.aload_n 3, 1) := by decide +kernel
theorem dGH_about_101 : decode cGH_about 101 = .ok (.aload_n 0, 1) := by decide +kernel
theorem dGH_about_102 : decode cGH_about 102 = .ok (.getfield 29, 3) := by decide +kernel
theorem dGH_about_105 : decode cGH_about 105 = .ok (.aload_n 0, 1) := by decide +kernel
theorem dGH_about_106 : decode cGH_about 106 = .ok (.getfield 38, 3) := by decide +kernel
theorem dGH_about_109 : decode cGH_about 109 = .ok (.invokevirtual 108, 3) := by decide +kernel
theorem dGH_about_112 : decode cGH_about 112 = .ok (.invokevirtual 112, 3) := by decide +kernel
theorem dGH_about_115 : decode cGH_about 115 = .ok (.ireturn, 1) := by decide +kernel
theorem dGH_about_116 : decode cGH_about 116 = .ok (.iconst (-1), 1) := by decide +kernel
theorem dGH_about_117 : decode cGH_about 117 = .ok (.ireturn, 1) := by decide +kernel
theorem dGH_of_0 : decode cGH_of 0 = .ok (.aload_n 0, 1) := by decide +kernel
theorem dGH_of_1 : decode cGH_of 1 = .ok (.iload_n 1, 1) := by decide +kernel
theorem dGH_of_2 : decode cGH_of 2 = .ok (.invokevirtual 76, 3) := by decide +kernel
theorem dGH_of_5 : decode cGH_of 5 = .ok (.astore 4, 2) := by decide +kernel
theorem dGH_of_7 : decode cGH_of 7 = .ok (.aload 4, 2) := by decide +kernel
theorem dGH_of_9 : decode cGH_of 9 = .ok (.ifnull 19, 3) := by decide +kernel
theorem dGH_of_12 : decode cGH_of 12 = .ok (.iload_n 2, 1) := by decide +kernel
theorem dGH_of_13 : decode cGH_of 13 = .ok (.ifCond .lt 15, 3) := by decide +kernel
theorem dGH_of_16 : decode cGH_of 16 = .ok (.iload_n 2, 1) := by decide +kernel
theorem dGH_of_17 : decode cGH_of 17 = .ok (.aload 4, 2) := by decide +kernel
theorem dGH_of_19 : decode cGH_of 19 = .ok (.invokevirtual 80, 3) := by decide +kernel
theorem dGH_of_22 : decode cGH_of 22 = .ok (.invokevirtual 83, 3) := by decide +kernel
theorem dGH_of_25 : decode cGH_of 25 = .ok (.if_icmp .lt 5, 3) := by decide +kernel
theorem dGH_of_28 : decode cGH_of 28 = .ok (.iconst (-1), 1) := by decide +kernel
theorem dGH_of_29 : decode cGH_of 29 = .ok (.ireturn, 1) := by decide +kernel
theorem dGH_of_30 : decode cGH_of 30 = .ok (.aload 4, 2) := by decide +kernel
theorem dGH_of_32 : decode cGH_of 32 = .ok (.invokevirtual 80, 3) := by decide +kernel
theorem dGH_of_35 : decode cGH_of 35 = .ok (.iload_n 2, 1) := by decide +kernel
theorem dGH_of_36 : decode cGH_of 36 = .ok (.invokevirtual 115, 3) := by decide +kernel
theorem dGH_of_39 : decode cGH_of 39 = .ok (.istore 5, 2) := by decide +kernel
theorem dGH_of_41 : decode cGH_of 41 = .ok (.iload_n 3, 1) := by decide +kernel
theorem dGH_of_42 : decode cGH_of 42 = .ok (.tableswitch 86 0 4 #[34, 41, 48, 58, 68], 34) := by decide +kernel
theorem dGH_of_76 : decode cGH_of 76 = .ok (.iload 5, 2) := by decide +kernel
theorem dGH_of_78 : decode cGH_of 78 = .ok (.sipush 13824, 3) := by decide +kernel
theorem dGH_of_81 : decode cGH_of 81 = .ok (.idiv, 1) := by decide +kernel
theorem dGH_of_82 : decode cGH_of 82 = .ok (.ireturn, 1) := by decide +kernel
theorem dGH_of_83 : decode cGH_of 83 = .ok (.iload 5, 2) := by decide +kernel
theorem dGH_of_85 : decode cGH_of 85 = .ok (.sipush 13824, 3) := by decide +kernel
theorem dGH_of_88 : decode cGH_of 88 = .ok (.irem, 1) := by decide +kernel
theorem dGH_of_89 : decode cGH_of 89 = .ok (.ireturn, 1) := by decide +kernel
theorem dGH_of_90 : decode cGH_of 90 = .ok (.aload_n 0, 1) := by decide +kernel
theorem dGH_of_91 : decode cGH_of 91 = .ok (.getfield 29, 3) := by decide +kernel
theorem dGH_of_94 : decode cGH_of 94 = .ok (.iload 5, 2) := by decide +kernel
theorem dGH_of_96 : decode cGH_of 96 = .ok (.invokevirtual 118, 3) := by decide +kernel
theorem dGH_of_99 : decode cGH_of 99 = .ok (.ireturn, 1) := by decide +kernel
theorem dGH_of_100 : decode cGH_of 100 = .ok (.aload_n 0, 1) := by decide +kernel
theorem dGH_of_101 : decode cGH_of 101 = .ok (.getfield 29, 3) := by decide +kernel
theorem dGH_of_104 : decode cGH_of 104 = .ok (.iload 5, 2) := by decide +kernel
theorem dGH_of_106 : decode cGH_of 106 = .ok (.invokevirtual 121, 3) := by decide +kernel
theorem dGH_of_109 : decode cGH_of 109 = .ok (.ireturn, 1) := by decide +kernel
theorem dGH_of_110 : decode cGH_of 110 = .ok (.aload 4, 2) := by decide +kernel
theorem dGH_of_112 : decode cGH_of 112 = .ok (.aload_n 0, 1) := by decide +kernel
theorem dGH_of_113 : decode cGH_of 113 = .ok (.getfield 29, 3) := by decide +kernel
theorem dGH_of_116 : decode cGH_of 116 = .ok (.aload_n 0, 1) := by decide +kernel
theorem dGH_of_117 : decode cGH_of 117 = .ok (.getfield 38, 3) := by decide +kernel
theorem dGH_of_120 : decode cGH_of 120 = .ok (.invokevirtual 99, 3) := by decide +kernel
theorem dGH_of_123 : decode cGH_of 123 = .ok (.iload_n 2, 1) := by decide +kernel
theorem dGH_of_124 : decode cGH_of 124 = .ok (.invokevirtual 124, 3) := by decide +kernel
theorem dGH_of_127 : decode cGH_of 127 = .ok (.ireturn, 1) := by decide +kernel
theorem dGH_of_128 : decode cGH_of 128 = .ok (.iconst (-1), 1) := by decide +kernel
theorem dGH_of_129 : decode cGH_of 129 = .ok (.ireturn, 1) := by decide +kernel
theorem dGH_product_0 : decode cGH_product 0 = .ok (.aload_n 0, 1) := by decide +kernel
theorem dGH_product_1 : decode cGH_product 1 = .ok (.iload_n 1, 1) := by decide +kernel
theorem dGH_product_2 : decode cGH_product 2 = .ok (.invokevirtual 76, 3) := by decide +kernel
theorem dGH_product_5 : decode cGH_product 5 = .ok (.astore 4, 2) := by decide +kernel
theorem dGH_product_7 : decode cGH_product 7 = .ok (.aload 4, 2) := by decide +kernel
theorem dGH_product_9 : decode cGH_product 9 = .ok (.ifnonnull 5, 3) := by decide +kernel
theorem dGH_product_12 : decode cGH_product 12 = .ok (.iconst (-1), 1) := by decide +kernel
theorem dGH_product_13 : decode cGH_product 13 = .ok (.ireturn, 1) := by decide +kernel
theorem dGH_product_14 : decode cGH_product 14 = .ok (.aload 4, 2) := by decide +kernel
theorem dGH_product_16 : decode cGH_product 16 = .ok (.invokevirtual 80, 3) := by decide +kernel
theorem dGH_product_19 : decode cGH_product 19 = .ok (.iload_n 2, 1) := by decide +kernel
theorem dGH_product_20 : decode cGH_product 20 = .ok (.invokevirtual 115, 3) := by decide +kernel
theorem dGH_product_23 : decode cGH_product 23 = .ok (.istore 5, 2) := by decide +kernel
theorem dGH_product_25 : decode cGH_product 25 = .ok (.aload 4, 2) := by decide +kernel
theorem dGH_product_27 : decode cGH_product 27 = .ok (.invokevirtual 80, 3) := by decide +kernel
theorem dGH_product_30 : decode cGH_product 30 = .ok (.iload_n 3, 1) := by decide +kernel
theorem dGH_product_31 : decode cGH_product 31 = .ok (.invokevirtual 115, 3) := by decide +kernel
theorem dGH_product_34 : decode cGH_product 34 = .ok (.istore 6, 2) := by decide +kernel
theorem dGH_product_36 : decode cGH_product 36 = .ok (.iload 5, 2) := by decide +kernel
theorem dGH_product_38 : decode cGH_product 38 = .ok (.iconst (-1), 1) := by decide +kernel
theorem dGH_product_39 : decode cGH_product 39 = .ok (.if_icmp .eq 9, 3) := by decide +kernel
theorem dGH_product_42 : decode cGH_product 42 = .ok (.iload 6, 2) := by decide +kernel
theorem dGH_product_44 : decode cGH_product 44 = .ok (.iconst (-1), 1) := by decide +kernel
theorem dGH_product_45 : decode cGH_product 45 = .ok (.if_icmp .ne 7, 3) := by decide +kernel
theorem dGH_product_48 : decode cGH_product 48 = .ok (.iconst (-1), 1) := by decide +kernel
theorem dGH_product_49 : decode cGH_product 49 = .ok (.goto 22, 3) := by decide +kernel
theorem dGH_product_52 : decode cGH_product 52 = .ok (.aload 4, 2) := by decide +kernel
theorem dGH_product_54 : decode cGH_product 54 = .ok (.invokevirtual 80, 3) := by decide +kernel
theorem dGH_product_57 : decode cGH_product 57 = .ok (.aload_n 0, 1) := by decide +kernel
theorem dGH_product_58 : decode cGH_product 58 = .ok (.getfield 29, 3) := by decide +kernel
theorem dGH_product_61 : decode cGH_product 61 = .ok (.iload 5, 2) := by decide +kernel
theorem dGH_product_63 : decode cGH_product 63 = .ok (.iload 6, 2) := by decide +kernel
theorem dGH_product_65 : decode cGH_product 65 = .ok (.invokevirtual 127, 3) := by decide +kernel
theorem dGH_product_68 : decode cGH_product 68 = .ok (.invokevirtual 131, 3) := by decide +kernel
theorem dGH_product_71 : decode cGH_product 71 = .ok (.ireturn, 1) := by decide +kernel
theorem dGH_find_0 : decode cGH_find 0 = .ok (.aload_n 0, 1) := by decide +kernel
theorem dGH_find_1 : decode cGH_find 1 = .ok (.iload_n 1, 1) := by decide +kernel
theorem dGH_find_2 : decode cGH_find 2 = .ok (.invokevirtual 76, 3) := by decide +kernel
theorem dGH_find_5 : decode cGH_find 5 = .ok (.astore 4, 2) := by decide +kernel
theorem dGH_find_7 : decode cGH_find 7 = .ok (.aload 4, 2) := by decide +kernel
theorem dGH_find_9 : decode cGH_find 9 = .ok (.ifnull 17, 3) := by decide +kernel
theorem dGH_find_12 : decode cGH_find 12 = .ok (.iload_n 2, 1) := by decide +kernel
theorem dGH_find_13 : decode cGH_find 13 = .ok (.invokestatic 51, 3) := by decide +kernel
theorem dGH_find_16 : decode cGH_find 16 = .ok (.ifCond .eq 10, 3) := by decide +kernel
theorem dGH_find_19 : decode cGH_find 19 = .ok (.iload_n 3, 1) := by decide +kernel
theorem dGH_find_20 : decode cGH_find 20 = .ok (.invokestatic 55, 3) := by decide +kernel
theorem dGH_find_23 : decode cGH_find 23 = .ok (.ifCond .ne 5, 3) := by decide +kernel
theorem dGH_find_26 : decode cGH_find 26 = .ok (.iconst (-1), 1) := by decide +kernel
theorem dGH_find_27 : decode cGH_find 27 = .ok (.ireturn, 1) := by decide +kernel
theorem dGH_find_28 : decode cGH_find 28 = .ok (.aload 4, 2) := by decide +kernel
theorem dGH_find_30 : decode cGH_find 30 = .ok (.invokevirtual 80, 3) := by decide +kernel
theorem dGH_find_33 : decode cGH_find 33 = .ok (.iload_n 2, 1) := by decide +kernel
theorem dGH_find_34 : decode cGH_find 34 = .ok (.sipush 13824, 3) := by decide +kernel
theorem dGH_find_37 : decode cGH_find 37 = .ok (.imul, 1) := by decide +kernel
theorem dGH_find_38 : decode cGH_find 38 = .ok (.iload_n 3, 1) := by decide +kernel
theorem dGH_find_39 : decode cGH_find 39 = .ok (.iadd, 1) := by decide +kernel
theorem dGH_find_40 : decode cGH_find 40 = .ok (.invokevirtual 131, 3) := by decide +kernel
theorem dGH_find_43 : decode cGH_find 43 = .ok (.ireturn, 1) := by decide +kernel
theorem dGH_half_0 : decode cGH_half 0 = .ok (.aload_n 0, 1) := by decide +kernel
theorem dGH_half_1 : decode cGH_half 1 = .ok (.iload_n 1, 1) := by decide +kernel
theorem dGH_half_2 : decode cGH_half 2 = .ok (.invokevirtual 76, 3) := by decide +kernel
theorem dGH_half_5 : decode cGH_half 5 = .ok (.astore_n 3, 1) := by decide +kernel
theorem dGH_half_6 : decode cGH_half 6 = .ok (.aload_n 3, 1) := by decide +kernel
theorem dGH_half_7 : decode cGH_half 7 = .ok (.ifnonnull 5, 3) := by decide +kernel
theorem dGH_half_10 : decode cGH_half 10 = .ok (.iconst (-1), 1) := by decide +kernel
theorem dGH_half_11 : decode cGH_half 11 = .ok (.ireturn, 1) := by decide +kernel
theorem dGH_half_12 : decode cGH_half 12 = .ok (.aload_n 3, 1) := by decide +kernel
theorem dGH_half_13 : decode cGH_half 13 = .ok (.aload_n 0, 1) := by decide +kernel
theorem dGH_half_14 : decode cGH_half 14 = .ok (.getfield 29, 3) := by decide +kernel
theorem dGH_half_17 : decode cGH_half 17 = .ok (.aload_n 0, 1) := by decide +kernel
theorem dGH_half_18 : decode cGH_half 18 = .ok (.getfield 38, 3) := by decide +kernel
theorem dGH_half_21 : decode cGH_half 21 = .ok (.invokevirtual 108, 3) := by decide +kernel
theorem dGH_half_24 : decode cGH_half 24 = .ok (.astore 4, 2) := by decide +kernel
theorem dGH_half_26 : decode cGH_half 26 = .ok (.iload_n 2, 1) := by decide +kernel
theorem dGH_half_27 : decode cGH_half 27 = .ok (.ifCond .lt 12, 3) := by decide +kernel
theorem dGH_half_30 : decode cGH_half 30 = .ok (.iload_n 2, 1) := by decide +kernel
theorem dGH_half_31 : decode cGH_half 31 = .ok (.aload 4, 2) := by decide +kernel
theorem dGH_half_33 : decode cGH_half 33 = .ok (.invokevirtual 112, 3) := by decide +kernel
theorem dGH_half_36 : decode cGH_half 36 = .ok (.if_icmp .lt 5, 3) := by decide +kernel
theorem dGH_half_39 : decode cGH_half 39 = .ok (.iconst (-1), 1) := by decide +kernel
theorem dGH_half_40 : decode cGH_half 40 = .ok (.ireturn, 1) := by decide +kernel
theorem dGH_half_41 : decode cGH_half 41 = .ok (.aload 4, 2) := by decide +kernel
theorem dGH_half_43 : decode cGH_half 43 = .ok (.iload_n 2, 1) := by decide +kernel
theorem dGH_half_44 : decode cGH_half 44 = .ok (.aload_n 3, 1) := by decide +kernel
theorem dGH_half_45 : decode cGH_half 45 = .ok (.invokevirtual 80, 3) := by decide +kernel
theorem dGH_half_48 : decode cGH_half 48 = .ok (.aload_n 0, 1) := by decide +kernel
theorem dGH_half_49 : decode cGH_half 49 = .ok (.getfield 47, 3) := by decide +kernel
theorem dGH_half_52 : decode cGH_half 52 = .ok (.invokevirtual 134, 3) := by decide +kernel
theorem dGH_half_55 : decode cGH_half 55 = .ok (.aload_n 0, 1) := by decide +kernel
theorem dGH_half_56 : decode cGH_half 56 = .ok (.aload_n 0, 1) := by decide +kernel
theorem dGH_half_57 : decode cGH_half 57 = .ok (.getfield 47, 3) := by decide +kernel
theorem dGH_half_60 : decode cGH_half 60 = .ok (.invokevirtual 72, 3) := by decide +kernel
theorem dGH_half_63 : decode cGH_half 63 = .ok (.ireturn, 1) := by decide +kernel
theorem dGH_both_0 : decode cGH_both 0 = .ok (.aload_n 0, 1) := by decide +kernel
theorem dGH_both_1 : decode cGH_both 1 = .ok (.iload_n 1, 1) := by decide +kernel
theorem dGH_both_2 : decode cGH_both 2 = .ok (.invokevirtual 76, 3) := by decide +kernel
theorem dGH_both_5 : decode cGH_both 5 = .ok (.astore_n 3, 1) := by decide +kernel
theorem dGH_both_6 : decode cGH_both 6 = .ok (.aload_n 0, 1) := by decide +kernel
theorem dGH_both_7 : decode cGH_both 7 = .ok (.iload_n 2, 1) := by decide +kernel
theorem dGH_both_8 : decode cGH_both 8 = .ok (.invokevirtual 76, 3) := by decide +kernel
theorem dGH_both_11 : decode cGH_both 11 = .ok (.astore 4, 2) := by decide +kernel
theorem dGH_both_13 : decode cGH_both 13 = .ok (.aload_n 3, 1) := by decide +kernel
theorem dGH_both_14 : decode cGH_both 14 = .ok (.ifnull 8, 3) := by decide +kernel
theorem dGH_both_17 : decode cGH_both 17 = .ok (.aload 4, 2) := by decide +kernel
theorem dGH_both_19 : decode cGH_both 19 = .ok (.ifnonnull 5, 3) := by decide +kernel
theorem dGH_both_22 : decode cGH_both 22 = .ok (.iconst (-1), 1) := by decide +kernel
theorem dGH_both_23 : decode cGH_both 23 = .ok (.ireturn, 1) := by decide +kernel
theorem dGH_both_24 : decode cGH_both 24 = .ok (.aload_n 0, 1) := by decide +kernel
theorem dGH_both_25 : decode cGH_both 25 = .ok (.getfield 47, 3) := by decide +kernel
theorem dGH_both_28 : decode cGH_both 28 = .ok (.invokevirtual 138, 3) := by decide +kernel
theorem dGH_both_31 : decode cGH_both 31 = .ok (.iconst 0, 1) := by decide +kernel
theorem dGH_both_32 : decode cGH_both 32 = .ok (.istore 5, 2) := by decide +kernel
theorem dGH_both_34 : decode cGH_both 34 = .ok (.iload 5, 2) := by decide +kernel
theorem dGH_both_36 : decode cGH_both 36 = .ok (.aload_n 3, 1) := by decide +kernel
theorem dGH_both_37 : decode cGH_both 37 = .ok (.invokevirtual 80, 3) := by decide +kernel
theorem dGH_both_40 : decode cGH_both 40 = .ok (.invokevirtual 83, 3) := by decide +kernel
theorem dGH_both_43 : decode cGH_both 43 = .ok (.if_icmp .ge 43, 3) := by decide +kernel
theorem dGH_both_46 : decode cGH_both 46 = .ok (.aload_n 3, 1) := by decide +kernel
theorem dGH_both_47 : decode cGH_both 47 = .ok (.invokevirtual 80, 3) := by decide +kernel
theorem dGH_both_50 : decode cGH_both 50 = .ok (.iload 5, 2) := by decide +kernel
theorem dGH_both_52 : decode cGH_both 52 = .ok (.invokevirtual 115, 3) := by decide +kernel
theorem dGH_both_55 : decode cGH_both 55 = .ok (.istore 6, 2) := by decide +kernel
theorem dGH_both_57 : decode cGH_both 57 = .ok (.aload 4, 2) := by decide +kernel
theorem dGH_both_59 : decode cGH_both 59 = .ok (.invokevirtual 80, 3) := by decide +kernel
theorem dGH_both_62 : decode cGH_both 62 = .ok (.iload 6, 2) := by decide +kernel
theorem dGH_both_64 : decode cGH_both 64 = .ok (.invokevirtual 141, 3) := by decide +kernel
theorem dGH_both_67 : decode cGH_both 67 = .ok (.ifCond .eq 13, 3) := by decide +kernel
theorem dGH_both_70 : decode cGH_both 70 = .ok (.aload_n 0, 1) := by decide +kernel
theorem dGH_both_71 : decode cGH_both 71 = .ok (.getfield 47, 3) := by decide +kernel
theorem dGH_both_74 : decode cGH_both 74 = .ok (.iload 6, 2) := by decide +kernel
theorem dGH_both_76 : decode cGH_both 76 = .ok (.invokevirtual 144, 3) := by decide +kernel
theorem dGH_both_79 : decode cGH_both 79 = .ok (.pop, 1) := by decide +kernel
theorem dGH_both_80 : decode cGH_both 80 = .ok (.iinc 5 1, 3) := by decide +kernel
theorem dGH_both_83 : decode cGH_both 83 = .ok (.goto (-49), 3) := by decide +kernel
theorem dGH_both_86 : decode cGH_both 86 = .ok (.aload_n 0, 1) := by decide +kernel
theorem dGH_both_87 : decode cGH_both 87 = .ok (.aload_n 0, 1) := by decide +kernel
theorem dGH_both_88 : decode cGH_both 88 = .ok (.getfield 47, 3) := by decide +kernel
theorem dGH_both_91 : decode cGH_both 91 = .ok (.invokevirtual 72, 3) := by decide +kernel
theorem dGH_both_94 : decode cGH_both 94 = .ok (.ireturn, 1) := by decide +kernel
theorem dGH_centre_0 : decode cGH_centre 0 = .ok (.aload_n 0, 1) := by decide +kernel
theorem dGH_centre_1 : decode cGH_centre 1 = .ok (.iload_n 1, 1) := by decide +kernel
theorem dGH_centre_2 : decode cGH_centre 2 = .ok (.invokevirtual 76, 3) := by decide +kernel
theorem dGH_centre_5 : decode cGH_centre 5 = .ok (.astore_n 2, 1) := by decide +kernel
theorem dGH_centre_6 : decode cGH_centre 6 = .ok (.aload_n 2, 1) := by decide +kernel
theorem dGH_centre_7 : decode cGH_centre 7 = .ok (.ifnonnull 5, 3) := by decide +kernel
theorem dGH_centre_10 : decode cGH_centre 10 = .ok (.iconst (-1), 1) := by decide +kernel
theorem dGH_centre_11 : decode cGH_centre 11 = .ok (.ireturn, 1) := by decide +kernel
theorem dGH_centre_12 : decode cGH_centre 12 = .ok (.aload_n 2, 1) := by decide +kernel
theorem dGH_centre_13 : decode cGH_centre 13 = .ok (.aload_n 0, 1) := by decide +kernel
theorem dGH_centre_14 : decode cGH_centre 14 = .ok (.getfield 29, 3) := by decide +kernel
theorem dGH_centre_17 : decode cGH_centre 17 = .ok (.aload_n 0, 1) := by decide +kernel
theorem dGH_centre_18 : decode cGH_centre 18 = .ok (.getfield 38, 3) := by decide +kernel
theorem dGH_centre_21 : decode cGH_centre 21 = .ok (.invokevirtual 99, 3) := by decide +kernel
theorem dGH_centre_24 : decode cGH_centre 24 = .ok (.astore_n 3, 1) := by decide +kernel
theorem dGH_centre_25 : decode cGH_centre 25 = .ok (.aload_n 0, 1) := by decide +kernel
theorem dGH_centre_26 : decode cGH_centre 26 = .ok (.getfield 47, 3) := by decide +kernel
theorem dGH_centre_29 : decode cGH_centre 29 = .ok (.invokevirtual 138, 3) := by decide +kernel
theorem dGH_centre_32 : decode cGH_centre 32 = .ok (.iconst 0, 1) := by decide +kernel
theorem dGH_centre_33 : decode cGH_centre 33 = .ok (.istore 4, 2) := by decide +kernel
theorem dGH_centre_35 : decode cGH_centre 35 = .ok (.iload 4, 2) := by decide +kernel
theorem dGH_centre_37 : decode cGH_centre 37 = .ok (.aload_n 2, 1) := by decide +kernel
theorem dGH_centre_38 : decode cGH_centre 38 = .ok (.invokevirtual 80, 3) := by decide +kernel
theorem dGH_centre_41 : decode cGH_centre 41 = .ok (.invokevirtual 83, 3) := by decide +kernel
theorem dGH_centre_44 : decode cGH_centre 44 = .ok (.if_icmp .ge 36, 3) := by decide +kernel
theorem dGH_centre_47 : decode cGH_centre 47 = .ok (.aload_n 3, 1) := by decide +kernel
theorem dGH_centre_48 : decode cGH_centre 48 = .ok (.iload 4, 2) := by decide +kernel
theorem dGH_centre_50 : decode cGH_centre 50 = .ok (.invokevirtual 124, 3) := by decide +kernel
theorem dGH_centre_53 : decode cGH_centre 53 = .ok (.iconst 1, 1) := by decide +kernel
theorem dGH_centre_54 : decode cGH_centre 54 = .ok (.if_icmp .ne 20, 3) := by decide +kernel
theorem dGH_centre_57 : decode cGH_centre 57 = .ok (.aload_n 0, 1) := by decide +kernel
theorem dGH_centre_58 : decode cGH_centre 58 = .ok (.getfield 47, 3) := by decide +kernel
theorem dGH_centre_61 : decode cGH_centre 61 = .ok (.aload_n 2, 1) := by decide +kernel
theorem dGH_centre_62 : decode cGH_centre 62 = .ok (.invokevirtual 80, 3) := by decide +kernel
theorem dGH_centre_65 : decode cGH_centre 65 = .ok (.iload 4, 2) := by decide +kernel
theorem dGH_centre_67 : decode cGH_centre 67 = .ok (.invokevirtual 115, 3) := by decide +kernel
theorem dGH_centre_70 : decode cGH_centre 70 = .ok (.invokevirtual 144, 3) := by decide +kernel
theorem dGH_centre_73 : decode cGH_centre 73 = .ok (.pop, 1) := by decide +kernel
theorem dGH_centre_74 : decode cGH_centre 74 = .ok (.iinc 4 1, 3) := by decide +kernel
theorem dGH_centre_77 : decode cGH_centre 77 = .ok (.goto (-42), 3) := by decide +kernel
theorem dGH_centre_80 : decode cGH_centre 80 = .ok (.aload_n 0, 1) := by decide +kernel
theorem dGH_centre_81 : decode cGH_centre 81 = .ok (.aload_n 0, 1) := by decide +kernel
theorem dGH_centre_82 : decode cGH_centre 82 = .ok (.getfield 47, 3) := by decide +kernel
theorem dGH_centre_85 : decode cGH_centre 85 = .ok (.invokevirtual 72, 3) := by decide +kernel
theorem dGH_centre_88 : decode cGH_centre 88 = .ok (.ireturn, 1) := by decide +kernel
theorem dGH_within_0 : decode cGH_within 0 = .ok (.aload_n 0, 1) := by decide +kernel
theorem dGH_within_1 : decode cGH_within 1 = .ok (.iload_n 1, 1) := by decide +kernel
theorem dGH_within_2 : decode cGH_within 2 = .ok (.invokevirtual 76, 3) := by decide +kernel
theorem dGH_within_5 : decode cGH_within 5 = .ok (.astore_n 3, 1) := by decide +kernel
theorem dGH_within_6 : decode cGH_within 6 = .ok (.aload_n 0, 1) := by decide +kernel
theorem dGH_within_7 : decode cGH_within 7 = .ok (.iload_n 2, 1) := by decide +kernel
theorem dGH_within_8 : decode cGH_within 8 = .ok (.invokevirtual 76, 3) := by decide +kernel
theorem dGH_within_11 : decode cGH_within 11 = .ok (.astore 4, 2) := by decide +kernel
theorem dGH_within_13 : decode cGH_within 13 = .ok (.aload_n 3, 1) := by decide +kernel
theorem dGH_within_14 : decode cGH_within 14 = .ok (.ifnull 8, 3) := by decide +kernel
theorem dGH_within_17 : decode cGH_within 17 = .ok (.aload 4, 2) := by decide +kernel
theorem dGH_within_19 : decode cGH_within 19 = .ok (.ifnonnull 5, 3) := by decide +kernel
theorem dGH_within_22 : decode cGH_within 22 = .ok (.iconst 0, 1) := by decide +kernel
theorem dGH_within_23 : decode cGH_within 23 = .ok (.ireturn, 1) := by decide +kernel
theorem dGH_within_24 : decode cGH_within 24 = .ok (.iconst 0, 1) := by decide +kernel
theorem dGH_within_25 : decode cGH_within 25 = .ok (.istore 5, 2) := by decide +kernel
theorem dGH_within_27 : decode cGH_within 27 = .ok (.iload 5, 2) := by decide +kernel
theorem dGH_within_29 : decode cGH_within 29 = .ok (.aload_n 3, 1) := by decide +kernel
theorem dGH_within_30 : decode cGH_within 30 = .ok (.invokevirtual 80, 3) := by decide +kernel
theorem dGH_within_33 : decode cGH_within 33 = .ok (.invokevirtual 83, 3) := by decide +kernel
theorem dGH_within_36 : decode cGH_within 36 = .ok (.if_icmp .ge 31, 3) := by decide +kernel
theorem dGH_within_39 : decode cGH_within 39 = .ok (.aload 4, 2) := by decide +kernel
theorem dGH_within_41 : decode cGH_within 41 = .ok (.invokevirtual 80, 3) := by decide +kernel
theorem dGH_within_44 : decode cGH_within 44 = .ok (.aload_n 3, 1) := by decide +kernel
theorem dGH_within_45 : decode cGH_within 45 = .ok (.invokevirtual 80, 3) := by decide +kernel
theorem dGH_within_48 : decode cGH_within 48 = .ok (.iload 5, 2) := by decide +kernel
theorem dGH_within_50 : decode cGH_within 50 = .ok (.invokevirtual 115, 3) := by decide +kernel
theorem dGH_within_53 : decode cGH_within 53 = .ok (.invokevirtual 141, 3) := by decide +kernel
theorem dGH_within_56 : decode cGH_within 56 = .ok (.ifCond .ne 5, 3) := by decide +kernel
theorem dGH_within_59 : decode cGH_within 59 = .ok (.iconst 0, 1) := by decide +kernel
theorem dGH_within_60 : decode cGH_within 60 = .ok (.ireturn, 1) := by decide +kernel
theorem dGH_within_61 : decode cGH_within 61 = .ok (.iinc 5 1, 3) := by decide +kernel
theorem dGH_within_64 : decode cGH_within 64 = .ok (.goto (-37), 3) := by decide +kernel
theorem dGH_within_67 : decode cGH_within 67 = .ok (.iconst 1, 1) := by decide +kernel
theorem dGH_within_68 : decode cGH_within 68 = .ok (.ireturn, 1) := by decide +kernel
theorem dGH_orbit_0 : decode cGH_orbit 0 = .ok (.aload_n 0, 1) := by decide +kernel
theorem dGH_orbit_1 : decode cGH_orbit 1 = .ok (.iload_n 1, 1) := by decide +kernel
theorem dGH_orbit_2 : decode cGH_orbit 2 = .ok (.invokevirtual 76, 3) := by decide +kernel
theorem dGH_orbit_5 : decode cGH_orbit 5 = .ok (.astore 4, 2) := by decide +kernel
theorem dGH_orbit_7 : decode cGH_orbit 7 = .ok (.aload 4, 2) := by decide +kernel
theorem dGH_orbit_9 : decode cGH_orbit 9 = .ok (.ifnull 10, 3) := by decide +kernel
theorem dGH_orbit_12 : decode cGH_orbit 12 = .ok (.iload_n 2, 1) := by decide +kernel
theorem dGH_orbit_13 : decode cGH_orbit 13 = .ok (.invokestatic 55, 3) := by decide +kernel
theorem dGH_orbit_16 : decode cGH_orbit 16 = .ok (.ifCond .ne 5, 3) := by decide +kernel
theorem dGH_orbit_19 : decode cGH_orbit 19 = .ok (.iconst (-1), 1) := by decide +kernel
theorem dGH_orbit_20 : decode cGH_orbit 20 = .ok (.ireturn, 1) := by decide +kernel
theorem dGH_orbit_21 : decode cGH_orbit 21 = .ok (.iload_n 3, 1) := by decide +kernel
theorem dGH_orbit_22 : decode cGH_orbit 22 = .ok (.tableswitch 84 (-3) (-1) #[62, 44, 26], 26) := by decide +kernel
theorem dGH_orbit_48 : decode cGH_orbit 48 = .ok (.aload_n 0, 1) := by decide +kernel
theorem dGH_orbit_49 : decode cGH_orbit 49 = .ok (.aload 4, 2) := by decide +kernel
theorem dGH_orbit_51 : decode cGH_orbit 51 = .ok (.invokevirtual 80, 3) := by decide +kernel
theorem dGH_orbit_54 : decode cGH_orbit 54 = .ok (.iload_n 2, 1) := by decide +kernel
theorem dGH_orbit_55 : decode cGH_orbit 55 = .ok (.invokevirtual 147, 3) := by decide +kernel
theorem dGH_orbit_58 : decode cGH_orbit 58 = .ok (.aload_n 0, 1) := by decide +kernel
theorem dGH_orbit_59 : decode cGH_orbit 59 = .ok (.getfield 47, 3) := by decide +kernel
theorem dGH_orbit_62 : decode cGH_orbit 62 = .ok (.invokevirtual 83, 3) := by decide +kernel
theorem dGH_orbit_65 : decode cGH_orbit 65 = .ok (.ireturn, 1) := by decide +kernel
theorem dGH_orbit_66 : decode cGH_orbit 66 = .ok (.aload_n 0, 1) := by decide +kernel
theorem dGH_orbit_67 : decode cGH_orbit 67 = .ok (.aload 4, 2) := by decide +kernel
theorem dGH_orbit_69 : decode cGH_orbit 69 = .ok (.invokevirtual 80, 3) := by decide +kernel
theorem dGH_orbit_72 : decode cGH_orbit 72 = .ok (.iload_n 2, 1) := by decide +kernel
theorem dGH_orbit_73 : decode cGH_orbit 73 = .ok (.invokevirtual 151, 3) := by decide +kernel
theorem dGH_orbit_76 : decode cGH_orbit 76 = .ok (.aload_n 0, 1) := by decide +kernel
theorem dGH_orbit_77 : decode cGH_orbit 77 = .ok (.getfield 47, 3) := by decide +kernel
theorem dGH_orbit_80 : decode cGH_orbit 80 = .ok (.invokevirtual 83, 3) := by decide +kernel
theorem dGH_orbit_83 : decode cGH_orbit 83 = .ok (.ireturn, 1) := by decide +kernel
theorem dGH_orbit_84 : decode cGH_orbit 84 = .ok (.aload_n 0, 1) := by decide +kernel
theorem dGH_orbit_85 : decode cGH_orbit 85 = .ok (.aload 4, 2) := by decide +kernel
theorem dGH_orbit_87 : decode cGH_orbit 87 = .ok (.invokevirtual 80, 3) := by decide +kernel
theorem dGH_orbit_90 : decode cGH_orbit 90 = .ok (.iload_n 2, 1) := by decide +kernel
theorem dGH_orbit_91 : decode cGH_orbit 91 = .ok (.invokevirtual 151, 3) := by decide +kernel
theorem dGH_orbit_94 : decode cGH_orbit 94 = .ok (.aload_n 0, 1) := by decide +kernel
theorem dGH_orbit_95 : decode cGH_orbit 95 = .ok (.getfield 47, 3) := by decide +kernel
theorem dGH_orbit_98 : decode cGH_orbit 98 = .ok (.aload_n 0, 1) := by decide +kernel
theorem dGH_orbit_99 : decode cGH_orbit 99 = .ok (.getfield 29, 3) := by decide +kernel
theorem dGH_orbit_102 : decode cGH_orbit 102 = .ok (.invokestatic 154, 3) := by decide +kernel
theorem dGH_orbit_105 : decode cGH_orbit 105 = .ok (.ireturn, 1) := by decide +kernel
theorem dGH_orbit_106 : decode cGH_orbit 106 = .ok (.aload_n 0, 1) := by decide +kernel
theorem dGH_orbit_107 : decode cGH_orbit 107 = .ok (.aload 4, 2) := by decide +kernel
theorem dGH_orbit_109 : decode cGH_orbit 109 = .ok (.invokevirtual 80, 3) := by decide +kernel
theorem dGH_orbit_112 : decode cGH_orbit 112 = .ok (.iload_n 2, 1) := by decide +kernel
theorem dGH_orbit_113 : decode cGH_orbit 113 = .ok (.invokevirtual 147, 3) := by decide +kernel
theorem dGH_orbit_116 : decode cGH_orbit 116 = .ok (.aload_n 0, 1) := by decide +kernel
theorem dGH_orbit_117 : decode cGH_orbit 117 = .ok (.getfield 47, 3) := by decide +kernel
theorem dGH_orbit_120 : decode cGH_orbit 120 = .ok (.iload_n 3, 1) := by decide +kernel
theorem dGH_orbit_121 : decode cGH_orbit 121 = .ok (.invokevirtual 115, 3) := by decide +kernel
theorem dGH_orbit_124 : decode cGH_orbit 124 = .ok (.ireturn, 1) := by decide +kernel
theorem dGH_gatherOrbit_0 : decode cGH_gatherOrbit 0 = .ok (.aload_n 0, 1) := by decide +kernel
theorem dGH_gatherOrbit_1 : decode cGH_gatherOrbit 1 = .ok (.getfield 47, 3) := by decide +kernel
theorem dGH_gatherOrbit_4 : decode cGH_gatherOrbit 4 = .ok (.invokevirtual 138, 3) := by decide +kernel
theorem dGH_gatherOrbit_7 : decode cGH_gatherOrbit 7 = .ok (.iconst 0, 1) := by decide +kernel
theorem dGH_gatherOrbit_8 : decode cGH_gatherOrbit 8 = .ok (.istore_n 3, 1) := by decide +kernel
theorem dGH_gatherOrbit_9 : decode cGH_gatherOrbit 9 = .ok (.iload_n 3, 1) := by decide +kernel
theorem dGH_gatherOrbit_10 : decode cGH_gatherOrbit 10 = .ok (.aload_n 1, 1) := by decide +kernel
theorem dGH_gatherOrbit_11 : decode cGH_gatherOrbit 11 = .ok (.invokevirtual 83, 3) := by decide +kernel
theorem dGH_gatherOrbit_14 : decode cGH_gatherOrbit 14 = .ok (.if_icmp .ge 30, 3) := by decide +kernel
theorem dGH_gatherOrbit_17 : decode cGH_gatherOrbit 17 = .ok (.aload_n 0, 1) := by decide +kernel
theorem dGH_gatherOrbit_18 : decode cGH_gatherOrbit 18 = .ok (.getfield 47, 3) := by decide +kernel
theorem dGH_gatherOrbit_21 : decode cGH_gatherOrbit 21 = .ok (.aload_n 0, 1) := by decide +kernel
theorem dGH_gatherOrbit_22 : decode cGH_gatherOrbit 22 = .ok (.getfield 29, 3) := by decide +kernel
theorem dGH_gatherOrbit_25 : decode cGH_gatherOrbit 25 = .ok (.aload_n 1, 1) := by decide +kernel
theorem dGH_gatherOrbit_26 : decode cGH_gatherOrbit 26 = .ok (.iload_n 3, 1) := by decide +kernel
theorem dGH_gatherOrbit_27 : decode cGH_gatherOrbit 27 = .ok (.invokevirtual 115, 3) := by decide +kernel
theorem dGH_gatherOrbit_30 : decode cGH_gatherOrbit 30 = .ok (.iload_n 2, 1) := by decide +kernel
theorem dGH_gatherOrbit_31 : decode cGH_gatherOrbit 31 = .ok (.invokevirtual 165, 3) := by decide +kernel
theorem dGH_gatherOrbit_34 : decode cGH_gatherOrbit 34 = .ok (.invokevirtual 144, 3) := by decide +kernel
theorem dGH_gatherOrbit_37 : decode cGH_gatherOrbit 37 = .ok (.pop, 1) := by decide +kernel
theorem dGH_gatherOrbit_38 : decode cGH_gatherOrbit 38 = .ok (.iinc 3 1, 3) := by decide +kernel
theorem dGH_gatherOrbit_41 : decode cGH_gatherOrbit 41 = .ok (.goto (-32), 3) := by decide +kernel
theorem dGH_gatherOrbit_44 : decode cGH_gatherOrbit 44 = .ok (.return_, 1) := by decide +kernel
theorem dGH_gatherKeepers_0 : decode cGH_gatherKeepers 0 = .ok (.aload_n 0, 1) := by decide +kernel
theorem dGH_gatherKeepers_1 : decode cGH_gatherKeepers 1 = .ok (.getfield 47, 3) := by decide +kernel
theorem dGH_gatherKeepers_4 : decode cGH_gatherKeepers 4 = .ok (.invokevirtual 138, 3) := by decide +kernel
theorem dGH_gatherKeepers_7 : decode cGH_gatherKeepers 7 = .ok (.iconst 0, 1) := by decide +kernel
theorem dGH_gatherKeepers_8 : decode cGH_gatherKeepers 8 = .ok (.istore_n 3, 1) := by decide +kernel
theorem dGH_gatherKeepers_9 : decode cGH_gatherKeepers 9 = .ok (.iload_n 3, 1) := by decide +kernel
theorem dGH_gatherKeepers_10 : decode cGH_gatherKeepers 10 = .ok (.aload_n 1, 1) := by decide +kernel
theorem dGH_gatherKeepers_11 : decode cGH_gatherKeepers 11 = .ok (.invokevirtual 83, 3) := by decide +kernel
theorem dGH_gatherKeepers_14 : decode cGH_gatherKeepers 14 = .ok (.if_icmp .ge 40, 3) := by decide +kernel
theorem dGH_gatherKeepers_17 : decode cGH_gatherKeepers 17 = .ok (.aload_n 1, 1) := by decide +kernel
theorem dGH_gatherKeepers_18 : decode cGH_gatherKeepers 18 = .ok (.iload_n 3, 1) := by decide +kernel
theorem dGH_gatherKeepers_19 : decode cGH_gatherKeepers 19 = .ok (.invokevirtual 115, 3) := by decide +kernel
theorem dGH_gatherKeepers_22 : decode cGH_gatherKeepers 22 = .ok (.istore 4, 2) := by decide +kernel
theorem dGH_gatherKeepers_24 : decode cGH_gatherKeepers 24 = .ok (.aload_n 0, 1) := by decide +kernel
theorem dGH_gatherKeepers_25 : decode cGH_gatherKeepers 25 = .ok (.getfield 29, 3) := by decide +kernel
theorem dGH_gatherKeepers_28 : decode cGH_gatherKeepers 28 = .ok (.iload 4, 2) := by decide +kernel
theorem dGH_gatherKeepers_30 : decode cGH_gatherKeepers 30 = .ok (.iload_n 2, 1) := by decide +kernel
theorem dGH_gatherKeepers_31 : decode cGH_gatherKeepers 31 = .ok (.invokevirtual 165, 3) := by decide +kernel
theorem dGH_gatherKeepers_34 : decode cGH_gatherKeepers 34 = .ok (.iload_n 2, 1) := by decide +kernel
theorem dGH_gatherKeepers_35 : decode cGH_gatherKeepers 35 = .ok (.if_icmp .ne 13, 3) := by decide +kernel
theorem dGH_gatherKeepers_38 : decode cGH_gatherKeepers 38 = .ok (.aload_n 0, 1) := by decide +kernel
theorem dGH_gatherKeepers_39 : decode cGH_gatherKeepers 39 = .ok (.getfield 47, 3) := by decide +kernel
theorem dGH_gatherKeepers_42 : decode cGH_gatherKeepers 42 = .ok (.iload 4, 2) := by decide +kernel
theorem dGH_gatherKeepers_44 : decode cGH_gatherKeepers 44 = .ok (.invokevirtual 144, 3) := by decide +kernel
theorem dGH_gatherKeepers_47 : decode cGH_gatherKeepers 47 = .ok (.pop, 1) := by decide +kernel
theorem dGH_gatherKeepers_48 : decode cGH_gatherKeepers 48 = .ok (.iinc 3 1, 3) := by decide +kernel
theorem dGH_gatherKeepers_51 : decode cGH_gatherKeepers 51 = .ok (.goto (-42), 3) := by decide +kernel
theorem dGH_gatherKeepers_54 : decode cGH_gatherKeepers 54 = .ok (.return_, 1) := by decide +kernel
theorem dGH_keepers_0 : decode cGH_keepers 0 = .ok (.aload_n 0, 1) := by decide +kernel
theorem dGH_keepers_1 : decode cGH_keepers 1 = .ok (.iload_n 1, 1) := by decide +kernel
theorem dGH_keepers_2 : decode cGH_keepers 2 = .ok (.invokevirtual 76, 3) := by decide +kernel
theorem dGH_keepers_5 : decode cGH_keepers 5 = .ok (.astore_n 3, 1) := by decide +kernel
theorem dGH_keepers_6 : decode cGH_keepers 6 = .ok (.aload_n 3, 1) := by decide +kernel
theorem dGH_keepers_7 : decode cGH_keepers 7 = .ok (.ifnull 10, 3) := by decide +kernel
theorem dGH_keepers_10 : decode cGH_keepers 10 = .ok (.iload_n 2, 1) := by decide +kernel
