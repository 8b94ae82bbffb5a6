/-! decode rows: written by wip/whole/names.py -/
theorem dRO_init_0 : decode cRO_init 0 = .ok (.aload_n 0, 1) := by decide +kernel
theorem dRO_init_1 : decode cRO_init 1 = .ok (.invokespecial 3, 3) := by decide +kernel
theorem dRO_init_4 : decode cRO_init 4 = .ok (.aload_n 0, 1) := by decide +kernel
theorem dRO_init_5 : decode cRO_init 5 = .ok (.iconst 0, 1) := by decide +kernel
theorem dRO_init_6 : decode cRO_init 6 = .ok (.putfield 9, 3) := by decide +kernel
theorem dRO_init_9 : decode cRO_init 9 = .ok (.aload_n 0, 1) := by decide +kernel
theorem dRO_init_10 : decode cRO_init 10 = .ok (.iload_n 1, 1) := by decide +kernel
theorem dRO_init_11 : decode cRO_init 11 = .ok (.iconst 0, 1) := by decide +kernel
theorem dRO_init_12 : decode cRO_init 12 = .ok (.invokestatic 15, 3) := by decide +kernel
theorem dRO_init_15 : decode cRO_init 15 = .ok (.newarray .int, 2) := by decide +kernel
theorem dRO_init_17 : decode cRO_init 17 = .ok (.putfield 21, 3) := by decide +kernel
theorem dRO_init_20 : decode cRO_init 20 = .ok (.return_, 1) := by decide +kernel
theorem dRO_clear_0 : decode cRO_clear 0 = .ok (.aload_n 0, 1) := by decide +kernel
theorem dRO_clear_1 : decode cRO_clear 1 = .ok (.iconst 0, 1) := by decide +kernel
theorem dRO_clear_2 : decode cRO_clear 2 = .ok (.putfield 9, 3) := by decide +kernel
theorem dRO_clear_5 : decode cRO_clear 5 = .ok (.return_, 1) := by decide +kernel
theorem dRO_add_0 : decode cRO_add 0 = .ok (.aload_n 0, 1) := by decide +kernel
theorem dRO_add_1 : decode cRO_add 1 = .ok (.iload_n 1, 1) := by decide +kernel
theorem dRO_add_2 : decode cRO_add 2 = .ok (.invokevirtual 29, 3) := by decide +kernel
theorem dRO_add_5 : decode cRO_add 5 = .ok (.istore_n 2, 1) := by decide +kernel
theorem dRO_add_6 : decode cRO_add 6 = .ok (.aload_n 0, 1) := by decide +kernel
theorem dRO_add_7 : decode cRO_add 7 = .ok (.iload_n 2, 1) := by decide +kernel
theorem dRO_add_8 : decode cRO_add 8 = .ok (.invokevirtual 32, 3) := by decide +kernel
theorem dRO_add_11 : decode cRO_add 11 = .ok (.iload_n 1, 1) := by decide +kernel
theorem dRO_add_12 : decode cRO_add 12 = .ok (.if_icmp .ne 5, 3) := by decide +kernel
theorem dRO_add_15 : decode cRO_add 15 = .ok (.iconst 1, 1) := by decide +kernel
theorem dRO_add_16 : decode cRO_add 16 = .ok (.ireturn, 1) := by decide +kernel
theorem dRO_add_17 : decode cRO_add 17 = .ok (.iload_n 1, 1) := by decide +kernel
theorem dRO_add_18 : decode cRO_add 18 = .ok (.ifCond .lt 27, 3) := by decide +kernel
theorem dRO_add_21 : decode cRO_add 21 = .ok (.iload_n 2, 1) := by decide +kernel
theorem dRO_add_22 : decode cRO_add 22 = .ok (.ifCond .lt 23, 3) := by decide +kernel
theorem dRO_add_25 : decode cRO_add 25 = .ok (.iload_n 2, 1) := by decide +kernel
theorem dRO_add_26 : decode cRO_add 26 = .ok (.aload_n 0, 1) := by decide +kernel
theorem dRO_add_27 : decode cRO_add 27 = .ok (.getfield 9, 3) := by decide +kernel
theorem dRO_add_30 : decode cRO_add 30 = .ok (.if_icmp .gt 15, 3) := by decide +kernel
theorem dRO_add_33 : decode cRO_add 33 = .ok (.aload_n 0, 1) := by decide +kernel
theorem dRO_add_34 : decode cRO_add 34 = .ok (.getfield 9, 3) := by decide +kernel
theorem dRO_add_37 : decode cRO_add 37 = .ok (.aload_n 0, 1) := by decide +kernel
theorem dRO_add_38 : decode cRO_add 38 = .ok (.getfield 21, 3) := by decide +kernel
theorem dRO_add_41 : decode cRO_add 41 = .ok (.arraylength, 1) := by decide +kernel
theorem dRO_add_42 : decode cRO_add 42 = .ok (.if_icmp .lt 5, 3) := by decide +kernel
theorem dRO_add_45 : decode cRO_add 45 = .ok (.iconst 0, 1) := by decide +kernel
theorem dRO_add_46 : decode cRO_add 46 = .ok (.ireturn, 1) := by decide +kernel
theorem dRO_add_47 : decode cRO_add 47 = .ok (.aload_n 0, 1) := by decide +kernel
theorem dRO_add_48 : decode cRO_add 48 = .ok (.getfield 21, 3) := by decide +kernel
theorem dRO_add_51 : decode cRO_add 51 = .ok (.iload_n 2, 1) := by decide +kernel
theorem dRO_add_52 : decode cRO_add 52 = .ok (.aload_n 0, 1) := by decide +kernel
theorem dRO_add_53 : decode cRO_add 53 = .ok (.getfield 21, 3) := by decide +kernel
theorem dRO_add_56 : decode cRO_add 56 = .ok (.iload_n 2, 1) := by decide +kernel
theorem dRO_add_57 : decode cRO_add 57 = .ok (.iconst 1, 1) := by decide +kernel
theorem dRO_add_58 : decode cRO_add 58 = .ok (.iadd, 1) := by decide +kernel
theorem dRO_add_59 : decode cRO_add 59 = .ok (.aload_n 0, 1) := by decide +kernel
theorem dRO_add_60 : decode cRO_add 60 = .ok (.getfield 9, 3) := by decide +kernel
theorem dRO_add_63 : decode cRO_add 63 = .ok (.iload_n 2, 1) := by decide +kernel
theorem dRO_add_64 : decode cRO_add 64 = .ok (.isub, 1) := by decide +kernel
theorem dRO_add_65 : decode cRO_add 65 = .ok (.invokestatic 35, 3) := by decide +kernel
theorem dRO_add_68 : decode cRO_add 68 = .ok (.aload_n 0, 1) := by decide +kernel
theorem dRO_add_69 : decode cRO_add 69 = .ok (.getfield 21, 3) := by decide +kernel
theorem dRO_add_72 : decode cRO_add 72 = .ok (.iload_n 2, 1) := by decide +kernel
theorem dRO_add_73 : decode cRO_add 73 = .ok (.iload_n 1, 1) := by decide +kernel
theorem dRO_add_74 : decode cRO_add 74 = .ok (.iastore, 1) := by decide +kernel
theorem dRO_add_75 : decode cRO_add 75 = .ok (.aload_n 0, 1) := by decide +kernel
theorem dRO_add_76 : decode cRO_add 76 = .ok (.dup, 1) := by decide +kernel
theorem dRO_add_77 : decode cRO_add 77 = .ok (.getfield 9, 3) := by decide +kernel
theorem dRO_add_80 : decode cRO_add 80 = .ok (.iconst 1, 1) := by decide +kernel
theorem dRO_add_81 : decode cRO_add 81 = .ok (.iadd, 1) := by decide +kernel
theorem dRO_add_82 : decode cRO_add 82 = .ok (.putfield 9, 3) := by decide +kernel
theorem dRO_add_85 : decode cRO_add 85 = .ok (.iconst 1, 1) := by decide +kernel
theorem dRO_add_86 : decode cRO_add 86 = .ok (.ireturn, 1) := by decide +kernel
theorem dRO_firstNotBelow_0 : decode cRO_firstNotBelow 0 = .ok (.iconst 0, 1) := by decide +kernel
theorem dRO_firstNotBelow_1 : decode cRO_firstNotBelow 1 = .ok (.istore_n 2, 1) := by decide +kernel
theorem dRO_firstNotBelow_2 : decode cRO_firstNotBelow 2 = .ok (.aload_n 0, 1) := by decide +kernel
theorem dRO_firstNotBelow_3 : decode cRO_firstNotBelow 3 = .ok (.getfield 9, 3) := by decide +kernel
theorem dRO_firstNotBelow_6 : decode cRO_firstNotBelow 6 = .ok (.istore_n 3, 1) := by decide +kernel
theorem dRO_firstNotBelow_7 : decode cRO_firstNotBelow 7 = .ok (.iconst 0, 1) := by decide +kernel
theorem dRO_firstNotBelow_8 : decode cRO_firstNotBelow 8 = .ok (.istore 4, 2) := by decide +kernel
theorem dRO_firstNotBelow_10 : decode cRO_firstNotBelow 10 = .ok (.iload 4, 2) := by decide +kernel
theorem dRO_firstNotBelow_12 : decode cRO_firstNotBelow 12 = .ok (.bipush 32, 2) := by decide +kernel
theorem dRO_firstNotBelow_14 : decode cRO_firstNotBelow 14 = .ok (.if_icmp .ge 53, 3) := by decide +kernel
theorem dRO_firstNotBelow_17 : decode cRO_firstNotBelow 17 = .ok (.iload_n 2, 1) := by decide +kernel
theorem dRO_firstNotBelow_18 : decode cRO_firstNotBelow 18 = .ok (.iload_n 3, 1) := by decide +kernel
theorem dRO_firstNotBelow_19 : decode cRO_firstNotBelow 19 = .ok (.if_icmp .ge 48, 3) := by decide +kernel
theorem dRO_firstNotBelow_22 : decode cRO_firstNotBelow 22 = .ok (.iload_n 2, 1) := by decide +kernel
theorem dRO_firstNotBelow_23 : decode cRO_firstNotBelow 23 = .ok (.iload_n 3, 1) := by decide +kernel
theorem dRO_firstNotBelow_24 : decode cRO_firstNotBelow 24 = .ok (.iadd, 1) := by decide +kernel
theorem dRO_firstNotBelow_25 : decode cRO_firstNotBelow 25 = .ok (.iconst 1, 1) := by decide +kernel
theorem dRO_firstNotBelow_26 : decode cRO_firstNotBelow 26 = .ok (.iushr, 1) := by decide +kernel
theorem dRO_firstNotBelow_27 : decode cRO_firstNotBelow 27 = .ok (.istore 5, 2) := by decide +kernel
theorem dRO_firstNotBelow_29 : decode cRO_firstNotBelow 29 = .ok (.iload 5, 2) := by decide +kernel
theorem dRO_firstNotBelow_31 : decode cRO_firstNotBelow 31 = .ok (.aload_n 0, 1) := by decide +kernel
theorem dRO_firstNotBelow_32 : decode cRO_firstNotBelow 32 = .ok (.getfield 21, 3) := by decide +kernel
theorem dRO_firstNotBelow_35 : decode cRO_firstNotBelow 35 = .ok (.arraylength, 1) := by decide +kernel
theorem dRO_firstNotBelow_36 : decode cRO_firstNotBelow 36 = .ok (.if_icmp .ge 22, 3) := by decide +kernel
theorem dRO_firstNotBelow_39 : decode cRO_firstNotBelow 39 = .ok (.aload_n 0, 1) := by decide +kernel
theorem dRO_firstNotBelow_40 : decode cRO_firstNotBelow 40 = .ok (.getfield 21, 3) := by decide +kernel
theorem dRO_firstNotBelow_43 : decode cRO_firstNotBelow 43 = .ok (.iload 5, 2) := by decide +kernel
theorem dRO_firstNotBelow_45 : decode cRO_firstNotBelow 45 = .ok (.iaload, 1) := by decide +kernel
theorem dRO_firstNotBelow_46 : decode cRO_firstNotBelow 46 = .ok (.iload_n 1, 1) := by decide +kernel
theorem dRO_firstNotBelow_47 : decode cRO_firstNotBelow 47 = .ok (.if_icmp .ge 11, 3) := by decide +kernel
theorem dRO_firstNotBelow_50 : decode cRO_firstNotBelow 50 = .ok (.iload 5, 2) := by decide +kernel
theorem dRO_firstNotBelow_52 : decode cRO_firstNotBelow 52 = .ok (.iconst 1, 1) := by decide +kernel
theorem dRO_firstNotBelow_53 : decode cRO_firstNotBelow 53 = .ok (.iadd, 1) := by decide +kernel
theorem dRO_firstNotBelow_54 : decode cRO_firstNotBelow 54 = .ok (.istore_n 2, 1) := by decide +kernel
theorem dRO_firstNotBelow_55 : decode cRO_firstNotBelow 55 = .ok (.goto 6, 3) := by decide +kernel
theorem dRO_firstNotBelow_58 : decode cRO_firstNotBelow 58 = .ok (.iload 5, 2) := by decide +kernel
theorem dRO_firstNotBelow_60 : decode cRO_firstNotBelow 60 = .ok (.istore_n 3, 1) := by decide +kernel
theorem dRO_firstNotBelow_61 : decode cRO_firstNotBelow 61 = .ok (.iinc 4 1, 3) := by decide +kernel
theorem dRO_firstNotBelow_64 : decode cRO_firstNotBelow 64 = .ok (.goto (-54), 3) := by decide +kernel
theorem dRO_firstNotBelow_67 : decode cRO_firstNotBelow 67 = .ok (.iload_n 2, 1) := by decide +kernel
theorem dRO_firstNotBelow_68 : decode cRO_firstNotBelow 68 = .ok (.ireturn, 1) := by decide +kernel
theorem dRO_at_0 : decode cRO_at 0 = .ok (.iload_n 1, 1) := by decide +kernel
theorem dRO_at_1 : decode cRO_at 1 = .ok (.ifCond .lt 29, 3) := by decide +kernel
theorem dRO_at_4 : decode cRO_at 4 = .ok (.iload_n 1, 1) := by decide +kernel
theorem dRO_at_5 : decode cRO_at 5 = .ok (.aload_n 0, 1) := by decide +kernel
theorem dRO_at_6 : decode cRO_at 6 = .ok (.getfield 9, 3) := by decide +kernel
theorem dRO_at_9 : decode cRO_at 9 = .ok (.if_icmp .ge 21, 3) := by decide +kernel
theorem dRO_at_12 : decode cRO_at 12 = .ok (.iload_n 1, 1) := by decide +kernel
theorem dRO_at_13 : decode cRO_at 13 = .ok (.aload_n 0, 1) := by decide +kernel
theorem dRO_at_14 : decode cRO_at 14 = .ok (.getfield 21, 3) := by decide +kernel
theorem dRO_at_17 : decode cRO_at 17 = .ok (.arraylength, 1) := by decide +kernel
theorem dRO_at_18 : decode cRO_at 18 = .ok (.if_icmp .ge 12, 3) := by decide +kernel
theorem dRO_at_21 : decode cRO_at 21 = .ok (.aload_n 0, 1) := by decide +kernel
theorem dRO_at_22 : decode cRO_at 22 = .ok (.getfield 21, 3) := by decide +kernel
theorem dRO_at_25 : decode cRO_at 25 = .ok (.iload_n 1, 1) := by decide +kernel
theorem dRO_at_26 : decode cRO_at 26 = .ok (.iaload, 1) := by decide +kernel
theorem dRO_at_27 : decode cRO_at 27 = .ok (.goto 4, 3) := by decide +kernel
theorem dRO_at_30 : decode cRO_at 30 = .ok (.iconst (-1), 1) := by decide +kernel
theorem dRO_at_31 : decode cRO_at 31 = .ok (.ireturn, 1) := by decide +kernel
theorem dRO_has_0 : decode cRO_has 0 = .ok (.aload_n 0, 1) := by decide +kernel
theorem dRO_has_1 : decode cRO_has 1 = .ok (.iload_n 1, 1) := by decide +kernel
theorem dRO_has_2 : decode cRO_has 2 = .ok (.invokevirtual 25, 3) := by decide +kernel
theorem dRO_has_5 : decode cRO_has 5 = .ok (.iconst (-1), 1) := by decide +kernel
theorem dRO_has_6 : decode cRO_has 6 = .ok (.if_icmp .eq 7, 3) := by decide +kernel
theorem dRO_has_9 : decode cRO_has 9 = .ok (.iconst 1, 1) := by decide +kernel
theorem dRO_has_10 : decode cRO_has 10 = .ok (.goto 4, 3) := by decide +kernel
theorem dRO_has_13 : decode cRO_has 13 = .ok (.iconst 0, 1) := by decide +kernel
theorem dRO_has_14 : decode cRO_has 14 = .ok (.ireturn, 1) := by decide +kernel
theorem dRO_indexOf_0 : decode cRO_indexOf 0 = .ok (.aload_n 0, 1) := by decide +kernel
theorem dRO_indexOf_1 : decode cRO_indexOf 1 = .ok (.iload_n 1, 1) := by decide +kernel
theorem dRO_indexOf_2 : decode cRO_indexOf 2 = .ok (.invokevirtual 29, 3) := by decide +kernel
theorem dRO_indexOf_5 : decode cRO_indexOf 5 = .ok (.istore_n 2, 1) := by decide +kernel
theorem dRO_indexOf_6 : decode cRO_indexOf 6 = .ok (.iload_n 1, 1) := by decide +kernel
theorem dRO_indexOf_7 : decode cRO_indexOf 7 = .ok (.ifCond .lt 16, 3) := by decide +kernel
theorem dRO_indexOf_10 : decode cRO_indexOf 10 = .ok (.aload_n 0, 1) := by decide +kernel
theorem dRO_indexOf_11 : decode cRO_indexOf 11 = .ok (.iload_n 2, 1) := by decide +kernel
theorem dRO_indexOf_12 : decode cRO_indexOf 12 = .ok (.invokevirtual 32, 3) := by decide +kernel
theorem dRO_indexOf_15 : decode cRO_indexOf 15 = .ok (.iload_n 1, 1) := by decide +kernel
theorem dRO_indexOf_16 : decode cRO_indexOf 16 = .ok (.if_icmp .ne 7, 3) := by decide +kernel
theorem dRO_indexOf_19 : decode cRO_indexOf 19 = .ok (.iload_n 2, 1) := by decide +kernel
theorem dRO_indexOf_20 : decode cRO_indexOf 20 = .ok (.goto 4, 3) := by decide +kernel
theorem dRO_indexOf_23 : decode cRO_indexOf 23 = .ok (.iconst (-1), 1) := by decide +kernel
theorem dRO_indexOf_24 : decode cRO_indexOf 24 = .ok (.ireturn, 1) := by decide +kernel
theorem dRO_isLike_0 : decode cRO_isLike 0 = .ok (.aload_n 0, 1) := by decide +kernel
theorem dRO_isLike_1 : decode cRO_isLike 1 = .ok (.getfield 9, 3) := by decide +kernel
theorem dRO_isLike_4 : decode cRO_isLike 4 = .ok (.aload_n 1, 1) := by decide +kernel
theorem dRO_isLike_5 : decode cRO_isLike 5 = .ok (.getfield 9, 3) := by decide +kernel
theorem dRO_isLike_8 : decode cRO_isLike 8 = .ok (.if_icmp .eq 5, 3) := by decide +kernel
theorem dRO_isLike_11 : decode cRO_isLike 11 = .ok (.iconst 0, 1) := by decide +kernel
theorem dRO_isLike_12 : decode cRO_isLike 12 = .ok (.ireturn, 1) := by decide +kernel
theorem dRO_isLike_13 : decode cRO_isLike 13 = .ok (.iconst 0, 1) := by decide +kernel
theorem dRO_isLike_14 : decode cRO_isLike 14 = .ok (.istore_n 2, 1) := by decide +kernel
theorem dRO_isLike_15 : decode cRO_isLike 15 = .ok (.iload_n 2, 1) := by decide +kernel
theorem dRO_isLike_16 : decode cRO_isLike 16 = .ok (.aload_n 0, 1) := by decide +kernel
theorem dRO_isLike_17 : decode cRO_isLike 17 = .ok (.getfield 9, 3) := by decide +kernel
theorem dRO_isLike_20 : decode cRO_isLike 20 = .ok (.if_icmp .ge 24, 3) := by decide +kernel
theorem dRO_isLike_23 : decode cRO_isLike 23 = .ok (.aload_n 0, 1) := by decide +kernel
theorem dRO_isLike_24 : decode cRO_isLike 24 = .ok (.iload_n 2, 1) := by decide +kernel
theorem dRO_isLike_25 : decode cRO_isLike 25 = .ok (.invokevirtual 32, 3) := by decide +kernel
theorem dRO_isLike_28 : decode cRO_isLike 28 = .ok (.aload_n 1, 1) := by decide +kernel
theorem dRO_isLike_29 : decode cRO_isLike 29 = .ok (.iload_n 2, 1) := by decide +kernel
theorem dRO_isLike_30 : decode cRO_isLike 30 = .ok (.invokevirtual 32, 3) := by decide +kernel
theorem dRO_isLike_33 : decode cRO_isLike 33 = .ok (.if_icmp .eq 5, 3) := by decide +kernel
theorem dRO_isLike_36 : decode cRO_isLike 36 = .ok (.iconst 0, 1) := by decide +kernel
theorem dRO_isLike_37 : decode cRO_isLike 37 = .ok (.ireturn, 1) := by decide +kernel
theorem dRO_isLike_38 : decode cRO_isLike 38 = .ok (.iinc 2 1, 3) := by decide +kernel
theorem dRO_isLike_41 : decode cRO_isLike 41 = .ok (.goto (-26), 3) := by decide +kernel
theorem dRO_isLike_44 : decode cRO_isLike 44 = .ok (.iconst 1, 1) := by decide +kernel
theorem dRO_isLike_45 : decode cRO_isLike 45 = .ok (.ireturn, 1) := by decide +kernel
theorem dRO_size_0 : decode cRO_size 0 = .ok (.aload_n 0, 1) := by decide +kernel
theorem dRO_size_1 : decode cRO_size 1 = .ok (.getfield 9, 3) := by decide +kernel
theorem dRO_size_4 : decode cRO_size 4 = .ok (.ireturn, 1) := by decide +kernel
