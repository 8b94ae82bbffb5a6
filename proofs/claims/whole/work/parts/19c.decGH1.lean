/-! decode rows: written by wip/whole/names.py -/
theorem dGH_keepers_11 : decode cGH_keepers 11 = .ok (.invokestatic 55, 3) := by decide +kernel
theorem dGH_keepers_14 : decode cGH_keepers 14 = .ok (.ifCond .ne 5, 3) := by decide +kernel
theorem dGH_keepers_17 : decode cGH_keepers 17 = .ok (.iconst (-1), 1) := by decide +kernel
theorem dGH_keepers_18 : decode cGH_keepers 18 = .ok (.ireturn, 1) := by decide +kernel
theorem dGH_keepers_19 : decode cGH_keepers 19 = .ok (.aload_n 0, 1) := by decide +kernel
theorem dGH_keepers_20 : decode cGH_keepers 20 = .ok (.aload_n 3, 1) := by decide +kernel
theorem dGH_keepers_21 : decode cGH_keepers 21 = .ok (.invokevirtual 80, 3) := by decide +kernel
theorem dGH_keepers_24 : decode cGH_keepers 24 = .ok (.iload_n 2, 1) := by decide +kernel
theorem dGH_keepers_25 : decode cGH_keepers 25 = .ok (.invokevirtual 151, 3) := by decide +kernel
theorem dGH_keepers_28 : decode cGH_keepers 28 = .ok (.aload_n 0, 1) := by decide +kernel
theorem dGH_keepers_29 : decode cGH_keepers 29 = .ok (.aload_n 0, 1) := by decide +kernel
theorem dGH_keepers_30 : decode cGH_keepers 30 = .ok (.getfield 47, 3) := by decide +kernel
theorem dGH_keepers_33 : decode cGH_keepers 33 = .ok (.invokevirtual 72, 3) := by decide +kernel
theorem dGH_keepers_36 : decode cGH_keepers 36 = .ok (.ireturn, 1) := by decide +kernel
