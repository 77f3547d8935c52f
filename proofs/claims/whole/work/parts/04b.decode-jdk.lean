theorem d_Ar_fillI_0 : decode c_Ar_fillI 0 = .ok (.iconst 0, 1) := by decide +kernel
theorem d_Ar_fillI_1 : decode c_Ar_fillI 1 = .ok (.istore_n 2, 1) := by decide +kernel
theorem d_Ar_fillI_2 : decode c_Ar_fillI 2 = .ok (.aload_n 0, 1) := by decide +kernel
theorem d_Ar_fillI_3 : decode c_Ar_fillI 3 = .ok (.arraylength, 1) := by decide +kernel
theorem d_Ar_fillI_4 : decode c_Ar_fillI 4 = .ok (.istore_n 3, 1) := by decide +kernel
theorem d_Ar_fillI_5 : decode c_Ar_fillI 5 = .ok (.iload_n 2, 1) := by decide +kernel
theorem d_Ar_fillI_6 : decode c_Ar_fillI 6 = .ok (.iload_n 3, 1) := by decide +kernel
theorem d_Ar_fillI_7 : decode c_Ar_fillI 7 = .ok (.if_icmp .ge 13, 3) := by decide +kernel
theorem d_Ar_fillI_10 : decode c_Ar_fillI 10 = .ok (.aload_n 0, 1) := by decide +kernel
theorem d_Ar_fillI_11 : decode c_Ar_fillI 11 = .ok (.iload_n 2, 1) := by decide +kernel
theorem d_Ar_fillI_12 : decode c_Ar_fillI 12 = .ok (.iload_n 1, 1) := by decide +kernel
theorem d_Ar_fillI_13 : decode c_Ar_fillI 13 = .ok (.iastore, 1) := by decide +kernel
theorem d_Ar_fillI_14 : decode c_Ar_fillI 14 = .ok (.iinc 2 1, 3) := by decide +kernel
theorem d_Ar_fillI_17 : decode c_Ar_fillI 17 = .ok (.goto (-12), 3) := by decide +kernel
theorem d_Ar_fillI_20 : decode c_Ar_fillI 20 = .ok (.return_, 1) := by decide +kernel
theorem d_Ar_fillL_0 : decode c_Ar_fillL 0 = .ok (.iconst 0, 1) := by decide +kernel
theorem d_Ar_fillL_1 : decode c_Ar_fillL 1 = .ok (.istore_n 3, 1) := by decide +kernel
theorem d_Ar_fillL_2 : decode c_Ar_fillL 2 = .ok (.aload_n 0, 1) := by decide +kernel
theorem d_Ar_fillL_3 : decode c_Ar_fillL 3 = .ok (.arraylength, 1) := by decide +kernel
theorem d_Ar_fillL_4 : decode c_Ar_fillL 4 = .ok (.istore 4, 2) := by decide +kernel
theorem d_Ar_fillL_6 : decode c_Ar_fillL 6 = .ok (.iload_n 3, 1) := by decide +kernel
theorem d_Ar_fillL_7 : decode c_Ar_fillL 7 = .ok (.iload 4, 2) := by decide +kernel
theorem d_Ar_fillL_9 : decode c_Ar_fillL 9 = .ok (.if_icmp .ge 13, 3) := by decide +kernel
theorem d_Ar_fillL_12 : decode c_Ar_fillL 12 = .ok (.aload_n 0, 1) := by decide +kernel
theorem d_Ar_fillL_13 : decode c_Ar_fillL 13 = .ok (.iload_n 3, 1) := by decide +kernel
theorem d_Ar_fillL_14 : decode c_Ar_fillL 14 = .ok (.lload_n 1, 1) := by decide +kernel
theorem d_Ar_fillL_15 : decode c_Ar_fillL 15 = .ok (.lastore, 1) := by decide +kernel
theorem d_Ar_fillL_16 : decode c_Ar_fillL 16 = .ok (.iinc 3 1, 3) := by decide +kernel
theorem d_Ar_fillL_19 : decode c_Ar_fillL 19 = .ok (.goto (-13), 3) := by decide +kernel
theorem d_Ar_fillL_22 : decode c_Ar_fillL 22 = .ok (.return_, 1) := by decide +kernel
theorem d_Ar_copyI_0 : decode c_Ar_copyI 0 = .ok (.iload_n 1, 1) := by decide +kernel
theorem d_Ar_copyI_1 : decode c_Ar_copyI 1 = .ok (.aload_n 0, 1) := by decide +kernel
theorem d_Ar_copyI_2 : decode c_Ar_copyI 2 = .ok (.arraylength, 1) := by decide +kernel
theorem d_Ar_copyI_3 : decode c_Ar_copyI 3 = .ok (.if_icmp .ne 11, 3) := by decide +kernel
theorem d_Ar_copyI_6 : decode c_Ar_copyI 6 = .ok (.aload_n 0, 1) := by decide +kernel
theorem d_Ar_copyI_7 : decode c_Ar_copyI 7 = .ok (.invokevirtual 316, 3) := by decide +kernel
theorem d_Ar_copyI_10 : decode c_Ar_copyI 10 = .ok (.checkcast 317, 3) := by decide +kernel
theorem d_Ar_copyI_13 : decode c_Ar_copyI 13 = .ok (.areturn, 1) := by decide +kernel
theorem d_Ar_copyI_14 : decode c_Ar_copyI 14 = .ok (.iload_n 1, 1) := by decide +kernel
theorem d_Ar_copyI_15 : decode c_Ar_copyI 15 = .ok (.newarray .int, 2) := by decide +kernel
theorem d_Ar_copyI_17 : decode c_Ar_copyI 17 = .ok (.astore_n 2, 1) := by decide +kernel
theorem d_Ar_copyI_18 : decode c_Ar_copyI 18 = .ok (.aload_n 0, 1) := by decide +kernel
theorem d_Ar_copyI_19 : decode c_Ar_copyI 19 = .ok (.iconst 0, 1) := by decide +kernel
theorem d_Ar_copyI_20 : decode c_Ar_copyI 20 = .ok (.aload_n 2, 1) := by decide +kernel
theorem d_Ar_copyI_21 : decode c_Ar_copyI 21 = .ok (.iconst 0, 1) := by decide +kernel
theorem d_Ar_copyI_22 : decode c_Ar_copyI 22 = .ok (.aload_n 0, 1) := by decide +kernel
theorem d_Ar_copyI_23 : decode c_Ar_copyI 23 = .ok (.arraylength, 1) := by decide +kernel
theorem d_Ar_copyI_24 : decode c_Ar_copyI 24 = .ok (.iload_n 1, 1) := by decide +kernel
theorem d_Ar_copyI_25 : decode c_Ar_copyI 25 = .ok (.invokestatic 304, 3) := by decide +kernel
theorem d_Ar_copyI_28 : decode c_Ar_copyI 28 = .ok (.invokestatic 150, 3) := by decide +kernel
theorem d_Ar_copyI_31 : decode c_Ar_copyI 31 = .ok (.aload_n 2, 1) := by decide +kernel
theorem d_Ar_copyI_32 : decode c_Ar_copyI 32 = .ok (.areturn, 1) := by decide +kernel
theorem d_Mt_min_0 : decode c_Mt_min 0 = .ok (.iload_n 0, 1) := by decide +kernel
theorem d_Mt_min_1 : decode c_Mt_min 1 = .ok (.iload_n 1, 1) := by decide +kernel
theorem d_Mt_min_2 : decode c_Mt_min 2 = .ok (.if_icmp .gt 7, 3) := by decide +kernel
theorem d_Mt_min_5 : decode c_Mt_min 5 = .ok (.iload_n 0, 1) := by decide +kernel
theorem d_Mt_min_6 : decode c_Mt_min 6 = .ok (.goto 4, 3) := by decide +kernel
theorem d_Mt_min_9 : decode c_Mt_min 9 = .ok (.iload_n 1, 1) := by decide +kernel
theorem d_Mt_min_10 : decode c_Mt_min 10 = .ok (.ireturn, 1) := by decide +kernel
