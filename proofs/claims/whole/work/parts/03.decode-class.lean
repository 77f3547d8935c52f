theorem d_Ws_init_0 : decode c_Ws_init 0 = .ok (.aload_n 0, 1) := by decide +kernel
theorem d_Ws_init_1 : decode c_Ws_init 1 = .ok (.invokespecial 1, 3) := by decide +kernel
theorem d_Ws_init_4 : decode c_Ws_init 4 = .ok (.aload_n 0, 1) := by decide +kernel
theorem d_Ws_init_5 : decode c_Ws_init 5 = .ok (.new 7, 3) := by decide +kernel
theorem d_Ws_init_8 : decode c_Ws_init 8 = .ok (.dup, 1) := by decide +kernel
theorem d_Ws_init_9 : decode c_Ws_init 9 = .ok (.invokespecial 9, 3) := by decide +kernel
theorem d_Ws_init_12 : decode c_Ws_init 12 = .ok (.putfield 10, 3) := by decide +kernel
theorem d_Ws_init_15 : decode c_Ws_init 15 = .ok (.aload_n 0, 1) := by decide +kernel
theorem d_Ws_init_16 : decode c_Ws_init 16 = .ok (.iconst 4, 1) := by decide +kernel
theorem d_Ws_init_17 : decode c_Ws_init 17 = .ok (.anewarray 16, 3) := by decide +kernel
theorem d_Ws_init_20 : decode c_Ws_init 20 = .ok (.putfield 18, 3) := by decide +kernel
theorem d_Ws_init_23 : decode c_Ws_init 23 = .ok (.aload_n 0, 1) := by decide +kernel
theorem d_Ws_init_24 : decode c_Ws_init 24 = .ok (.new 16, 3) := by decide +kernel
theorem d_Ws_init_27 : decode c_Ws_init 27 = .ok (.dup, 1) := by decide +kernel
theorem d_Ws_init_28 : decode c_Ws_init 28 = .ok (.invokespecial 22, 3) := by decide +kernel
theorem d_Ws_init_31 : decode c_Ws_init 31 = .ok (.putfield 23, 3) := by decide +kernel
theorem d_Ws_init_34 : decode c_Ws_init 34 = .ok (.aload_n 0, 1) := by decide +kernel
theorem d_Ws_init_35 : decode c_Ws_init 35 = .ok (.new 27, 3) := by decide +kernel
theorem d_Ws_init_38 : decode c_Ws_init 38 = .ok (.dup, 1) := by decide +kernel
theorem d_Ws_init_39 : decode c_Ws_init 39 = .ok (.invokespecial 29, 3) := by decide +kernel
theorem d_Ws_init_42 : decode c_Ws_init 42 = .ok (.putfield 30, 3) := by decide +kernel
theorem d_Ws_init_45 : decode c_Ws_init 45 = .ok (.aload_n 0, 1) := by decide +kernel
theorem d_Ws_init_46 : decode c_Ws_init 46 = .ok (.new 34, 3) := by decide +kernel
theorem d_Ws_init_49 : decode c_Ws_init 49 = .ok (.dup, 1) := by decide +kernel
theorem d_Ws_init_50 : decode c_Ws_init 50 = .ok (.invokespecial 36, 3) := by decide +kernel
theorem d_Ws_init_53 : decode c_Ws_init 53 = .ok (.putfield 37, 3) := by decide +kernel
theorem d_Ws_init_56 : decode c_Ws_init 56 = .ok (.aload_n 0, 1) := by decide +kernel
theorem d_Ws_init_57 : decode c_Ws_init 57 = .ok (.new 41, 3) := by decide +kernel
theorem d_Ws_init_60 : decode c_Ws_init 60 = .ok (.dup, 1) := by decide +kernel
theorem d_Ws_init_61 : decode c_Ws_init 61 = .ok (.invokespecial 43, 3) := by decide +kernel
theorem d_Ws_init_64 : decode c_Ws_init 64 = .ok (.putfield 44, 3) := by decide +kernel
theorem d_Ws_init_67 : decode c_Ws_init 67 = .ok (.aload_n 0, 1) := by decide +kernel
theorem d_Ws_init_68 : decode c_Ws_init 68 = .ok (.new 48, 3) := by decide +kernel
theorem d_Ws_init_71 : decode c_Ws_init 71 = .ok (.dup, 1) := by decide +kernel
theorem d_Ws_init_72 : decode c_Ws_init 72 = .ok (.invokespecial 50, 3) := by decide +kernel
theorem d_Ws_init_75 : decode c_Ws_init 75 = .ok (.putfield 51, 3) := by decide +kernel
theorem d_Ws_init_78 : decode c_Ws_init 78 = .ok (.aload_n 0, 1) := by decide +kernel
theorem d_Ws_init_79 : decode c_Ws_init 79 = .ok (.new 16, 3) := by decide +kernel
theorem d_Ws_init_82 : decode c_Ws_init 82 = .ok (.dup, 1) := by decide +kernel
theorem d_Ws_init_83 : decode c_Ws_init 83 = .ok (.invokespecial 22, 3) := by decide +kernel
theorem d_Ws_init_86 : decode c_Ws_init 86 = .ok (.putfield 55, 3) := by decide +kernel
theorem d_Ws_init_89 : decode c_Ws_init 89 = .ok (.aload_n 0, 1) := by decide +kernel
theorem d_Ws_init_90 : decode c_Ws_init 90 = .ok (.iconst (-1), 1) := by decide +kernel
theorem d_Ws_init_91 : decode c_Ws_init 91 = .ok (.putfield 58, 3) := by decide +kernel
theorem d_Ws_init_94 : decode c_Ws_init 94 = .ok (.iconst 0, 1) := by decide +kernel
theorem d_Ws_init_95 : decode c_Ws_init 95 = .ok (.istore_n 1, 1) := by decide +kernel
theorem d_Ws_init_96 : decode c_Ws_init 96 = .ok (.iload_n 1, 1) := by decide +kernel
theorem d_Ws_init_97 : decode c_Ws_init 97 = .ok (.iconst 4, 1) := by decide +kernel
theorem d_Ws_init_98 : decode c_Ws_init 98 = .ok (.if_icmp .ge 22, 3) := by decide +kernel
theorem d_Ws_init_101 : decode c_Ws_init 101 = .ok (.aload_n 0, 1) := by decide +kernel
theorem d_Ws_init_102 : decode c_Ws_init 102 = .ok (.getfield 18, 3) := by decide +kernel
theorem d_Ws_init_105 : decode c_Ws_init 105 = .ok (.iload_n 1, 1) := by decide +kernel
theorem d_Ws_init_106 : decode c_Ws_init 106 = .ok (.new 16, 3) := by decide +kernel
theorem d_Ws_init_109 : decode c_Ws_init 109 = .ok (.dup, 1) := by decide +kernel
theorem d_Ws_init_110 : decode c_Ws_init 110 = .ok (.invokespecial 22, 3) := by decide +kernel
theorem d_Ws_init_113 : decode c_Ws_init 113 = .ok (.aastore, 1) := by decide +kernel
theorem d_Ws_init_114 : decode c_Ws_init 114 = .ok (.iinc 1 1, 3) := by decide +kernel
theorem d_Ws_init_117 : decode c_Ws_init 117 = .ok (.goto (-21), 3) := by decide +kernel
theorem d_Ws_init_120 : decode c_Ws_init 120 = .ok (.return_, 1) := by decide +kernel
theorem d_Ta_init_0 : decode c_Ta_init 0 = .ok (.aload_n 0, 1) := by decide +kernel
theorem d_Ta_init_1 : decode c_Ta_init 1 = .ok (.invokespecial 3, 3) := by decide +kernel
theorem d_Ta_init_4 : decode c_Ta_init 4 = .ok (.aload_n 0, 1) := by decide +kernel
theorem d_Ta_init_5 : decode c_Ta_init 5 = .ok (.bipush 80, 2) := by decide +kernel
theorem d_Ta_init_7 : decode c_Ta_init 7 = .ok (.newarray .int, 2) := by decide +kernel
theorem d_Ta_init_9 : decode c_Ta_init 9 = .ok (.putfield 9, 3) := by decide +kernel
theorem d_Ta_init_12 : decode c_Ta_init 12 = .ok (.aload_n 0, 1) := by decide +kernel
theorem d_Ta_init_13 : decode c_Ta_init 13 = .ok (.iconst 0, 1) := by decide +kernel
theorem d_Ta_init_14 : decode c_Ta_init 14 = .ok (.putfield 15, 3) := by decide +kernel
theorem d_Ta_init_17 : decode c_Ta_init 17 = .ok (.return_, 1) := by decide +kernel
theorem d_Ex_init_0 : decode c_Ex_init 0 = .ok (.aload_n 0, 1) := by decide +kernel
theorem d_Ex_init_1 : decode c_Ex_init 1 = .ok (.invokespecial 5, 3) := by decide +kernel
theorem d_Ex_init_4 : decode c_Ex_init 4 = .ok (.aload_n 0, 1) := by decide +kernel
theorem d_Ex_init_5 : decode c_Ex_init 5 = .ok (.bipush 9, 2) := by decide +kernel
theorem d_Ex_init_7 : decode c_Ex_init 7 = .ok (.newarray .int, 2) := by decide +kernel
theorem d_Ex_init_9 : decode c_Ex_init 9 = .ok (.putfield 11, 3) := by decide +kernel
theorem d_Ex_init_12 : decode c_Ex_init 12 = .ok (.aload_n 0, 1) := by decide +kernel
theorem d_Ex_init_13 : decode c_Ex_init 13 = .ok (.iconst 4, 1) := by decide +kernel
theorem d_Ex_init_14 : decode c_Ex_init 14 = .ok (.newarray .int, 2) := by decide +kernel
theorem d_Ex_init_16 : decode c_Ex_init 16 = .ok (.putfield 15, 3) := by decide +kernel
theorem d_Ex_init_19 : decode c_Ex_init 19 = .ok (.aload_n 0, 1) := by decide +kernel
theorem d_Ex_init_20 : decode c_Ex_init 20 = .ok (.iconst 0, 1) := by decide +kernel
theorem d_Ex_init_21 : decode c_Ex_init 21 = .ok (.putfield 18, 3) := by decide +kernel
theorem d_Ex_init_24 : decode c_Ex_init 24 = .ok (.aload_n 0, 1) := by decide +kernel
theorem d_Ex_init_25 : decode c_Ex_init 25 = .ok (.iconst 0, 1) := by decide +kernel
theorem d_Ex_init_26 : decode c_Ex_init 26 = .ok (.putfield 22, 3) := by decide +kernel
theorem d_Ex_init_29 : decode c_Ex_init 29 = .ok (.return_, 1) := by decide +kernel
theorem d_Pr_init_0 : decode c_Pr_init 0 = .ok (.aload_n 0, 1) := by decide +kernel
theorem d_Pr_init_1 : decode c_Pr_init 1 = .ok (.invokespecial 3, 3) := by decide +kernel
theorem d_Pr_init_4 : decode c_Pr_init 4 = .ok (.aload_n 0, 1) := by decide +kernel
theorem d_Pr_init_5 : decode c_Pr_init 5 = .ok (.bipush 9, 2) := by decide +kernel
theorem d_Pr_init_7 : decode c_Pr_init 7 = .ok (.anewarray 9, 3) := by decide +kernel
theorem d_Pr_init_10 : decode c_Pr_init 10 = .ok (.putfield 11, 3) := by decide +kernel
theorem d_Pr_init_13 : decode c_Pr_init 13 = .ok (.aload_n 0, 1) := by decide +kernel
theorem d_Pr_init_14 : decode c_Pr_init 14 = .ok (.bipush 9, 2) := by decide +kernel
theorem d_Pr_init_16 : decode c_Pr_init 16 = .ok (.anewarray 9, 3) := by decide +kernel
theorem d_Pr_init_19 : decode c_Pr_init 19 = .ok (.putfield 17, 3) := by decide +kernel
theorem d_Pr_init_22 : decode c_Pr_init 22 = .ok (.aload_n 0, 1) := by decide +kernel
theorem d_Pr_init_23 : decode c_Pr_init 23 = .ok (.new 9, 3) := by decide +kernel
theorem d_Pr_init_26 : decode c_Pr_init 26 = .ok (.dup, 1) := by decide +kernel
theorem d_Pr_init_27 : decode c_Pr_init 27 = .ok (.invokespecial 20, 3) := by decide +kernel
theorem d_Pr_init_30 : decode c_Pr_init 30 = .ok (.putfield 21, 3) := by decide +kernel
theorem d_Pr_init_33 : decode c_Pr_init 33 = .ok (.aload_n 0, 1) := by decide +kernel
theorem d_Pr_init_34 : decode c_Pr_init 34 = .ok (.iconst 0, 1) := by decide +kernel
theorem d_Pr_init_35 : decode c_Pr_init 35 = .ok (.putfield 25, 3) := by decide +kernel
theorem d_Pr_init_38 : decode c_Pr_init 38 = .ok (.aload_n 0, 1) := by decide +kernel
theorem d_Pr_init_39 : decode c_Pr_init 39 = .ok (.iconst 0, 1) := by decide +kernel
theorem d_Pr_init_40 : decode c_Pr_init 40 = .ok (.putfield 29, 3) := by decide +kernel
theorem d_Pr_init_43 : decode c_Pr_init 43 = .ok (.iconst 0, 1) := by decide +kernel
theorem d_Pr_init_44 : decode c_Pr_init 44 = .ok (.istore_n 1, 1) := by decide +kernel
theorem d_Pr_init_45 : decode c_Pr_init 45 = .ok (.iload_n 1, 1) := by decide +kernel
theorem d_Pr_init_46 : decode c_Pr_init 46 = .ok (.bipush 8, 2) := by decide +kernel
theorem d_Pr_init_48 : decode c_Pr_init 48 = .ok (.if_icmp .gt 35, 3) := by decide +kernel
theorem d_Pr_init_51 : decode c_Pr_init 51 = .ok (.aload_n 0, 1) := by decide +kernel
theorem d_Pr_init_52 : decode c_Pr_init 52 = .ok (.getfield 11, 3) := by decide +kernel
theorem d_Pr_init_55 : decode c_Pr_init 55 = .ok (.iload_n 1, 1) := by decide +kernel
theorem d_Pr_init_56 : decode c_Pr_init 56 = .ok (.new 9, 3) := by decide +kernel
theorem d_Pr_init_59 : decode c_Pr_init 59 = .ok (.dup, 1) := by decide +kernel
theorem d_Pr_init_60 : decode c_Pr_init 60 = .ok (.invokespecial 20, 3) := by decide +kernel
theorem d_Pr_init_63 : decode c_Pr_init 63 = .ok (.aastore, 1) := by decide +kernel
theorem d_Pr_init_64 : decode c_Pr_init 64 = .ok (.aload_n 0, 1) := by decide +kernel
theorem d_Pr_init_65 : decode c_Pr_init 65 = .ok (.getfield 17, 3) := by decide +kernel
theorem d_Pr_init_68 : decode c_Pr_init 68 = .ok (.iload_n 1, 1) := by decide +kernel
theorem d_Pr_init_69 : decode c_Pr_init 69 = .ok (.new 9, 3) := by decide +kernel
theorem d_Pr_init_72 : decode c_Pr_init 72 = .ok (.dup, 1) := by decide +kernel
theorem d_Pr_init_73 : decode c_Pr_init 73 = .ok (.invokespecial 20, 3) := by decide +kernel
theorem d_Pr_init_76 : decode c_Pr_init 76 = .ok (.aastore, 1) := by decide +kernel
theorem d_Pr_init_77 : decode c_Pr_init 77 = .ok (.iinc 1 1, 3) := by decide +kernel
theorem d_Pr_init_80 : decode c_Pr_init 80 = .ok (.goto (-35), 3) := by decide +kernel
theorem d_Pr_init_83 : decode c_Pr_init 83 = .ok (.return_, 1) := by decide +kernel
theorem d_Pt_init_0 : decode c_Pt_init 0 = .ok (.aload_n 0, 1) := by decide +kernel
theorem d_Pt_init_1 : decode c_Pt_init 1 = .ok (.invokespecial 1, 3) := by decide +kernel
theorem d_Pt_init_4 : decode c_Pt_init 4 = .ok (.aload_n 0, 1) := by decide +kernel
theorem d_Pt_init_5 : decode c_Pt_init 5 = .ok (.iconst 0, 1) := by decide +kernel
theorem d_Pt_init_6 : decode c_Pt_init 6 = .ok (.putfield 7, 3) := by decide +kernel
theorem d_Pt_init_9 : decode c_Pt_init 9 = .ok (.aload_n 0, 1) := by decide +kernel
theorem d_Pt_init_10 : decode c_Pt_init 10 = .ok (.iconst 0, 1) := by decide +kernel
theorem d_Pt_init_11 : decode c_Pt_init 11 = .ok (.putfield 13, 3) := by decide +kernel
theorem d_Pt_init_14 : decode c_Pt_init 14 = .ok (.aload_n 0, 1) := by decide +kernel
theorem d_Pt_init_15 : decode c_Pt_init 15 = .ok (.iconst 0, 1) := by decide +kernel
theorem d_Pt_init_16 : decode c_Pt_init 16 = .ok (.putfield 16, 3) := by decide +kernel
theorem d_Pt_init_19 : decode c_Pt_init 19 = .ok (.return_, 1) := by decide +kernel
theorem d_Ma_init_0 : decode c_Ma_init 0 = .ok (.aload_n 0, 1) := by decide +kernel
theorem d_Ma_init_1 : decode c_Ma_init 1 = .ok (.invokespecial 5, 3) := by decide +kernel
theorem d_Ma_init_4 : decode c_Ma_init 4 = .ok (.aload_n 0, 1) := by decide +kernel
theorem d_Ma_init_5 : decode c_Ma_init 5 = .ok (.sipush 257, 3) := by decide +kernel
theorem d_Ma_init_8 : decode c_Ma_init 8 = .ok (.newarray .int, 2) := by decide +kernel
theorem d_Ma_init_10 : decode c_Ma_init 10 = .ok (.putfield 13, 3) := by decide +kernel
theorem d_Ma_init_13 : decode c_Ma_init 13 = .ok (.aload_n 0, 1) := by decide +kernel
theorem d_Ma_init_14 : decode c_Ma_init 14 = .ok (.sipush 257, 3) := by decide +kernel
theorem d_Ma_init_17 : decode c_Ma_init 17 = .ok (.newarray .int, 2) := by decide +kernel
theorem d_Ma_init_19 : decode c_Ma_init 19 = .ok (.putfield 17, 3) := by decide +kernel
theorem d_Ma_init_22 : decode c_Ma_init 22 = .ok (.aload_n 0, 1) := by decide +kernel
theorem d_Ma_init_23 : decode c_Ma_init 23 = .ok (.sipush 1028, 3) := by decide +kernel
theorem d_Ma_init_26 : decode c_Ma_init 26 = .ok (.newarray .int, 2) := by decide +kernel
theorem d_Ma_init_28 : decode c_Ma_init 28 = .ok (.putfield 20, 3) := by decide +kernel
theorem d_Ma_init_31 : decode c_Ma_init 31 = .ok (.aload_n 0, 1) := by decide +kernel
theorem d_Ma_init_32 : decode c_Ma_init 32 = .ok (.sipush 257, 3) := by decide +kernel
theorem d_Ma_init_35 : decode c_Ma_init 35 = .ok (.newarray .int, 2) := by decide +kernel
theorem d_Ma_init_37 : decode c_Ma_init 37 = .ok (.putfield 23, 3) := by decide +kernel
theorem d_Ma_init_40 : decode c_Ma_init 40 = .ok (.aload_n 0, 1) := by decide +kernel
theorem d_Ma_init_41 : decode c_Ma_init 41 = .ok (.sipush 257, 3) := by decide +kernel
theorem d_Ma_init_44 : decode c_Ma_init 44 = .ok (.newarray .int, 2) := by decide +kernel
theorem d_Ma_init_46 : decode c_Ma_init 46 = .ok (.putfield 26, 3) := by decide +kernel
theorem d_Ma_init_49 : decode c_Ma_init 49 = .ok (.aload_n 0, 1) := by decide +kernel
theorem d_Ma_init_50 : decode c_Ma_init 50 = .ok (.sipush 257, 3) := by decide +kernel
theorem d_Ma_init_53 : decode c_Ma_init 53 = .ok (.newarray .int, 2) := by decide +kernel
theorem d_Ma_init_55 : decode c_Ma_init 55 = .ok (.putfield 29, 3) := by decide +kernel
theorem d_Ma_init_58 : decode c_Ma_init 58 = .ok (.aload_n 0, 1) := by decide +kernel
theorem d_Ma_init_59 : decode c_Ma_init 59 = .ok (.sipush 7967, 3) := by decide +kernel
theorem d_Ma_init_62 : decode c_Ma_init 62 = .ok (.newarray .long, 2) := by decide +kernel
theorem d_Ma_init_64 : decode c_Ma_init 64 = .ok (.putfield 32, 3) := by decide +kernel
theorem d_Ma_init_67 : decode c_Ma_init 67 = .ok (.aload_n 0, 1) := by decide +kernel
theorem d_Ma_init_68 : decode c_Ma_init 68 = .ok (.iconst 0, 1) := by decide +kernel
theorem d_Ma_init_69 : decode c_Ma_init 69 = .ok (.putfield 36, 3) := by decide +kernel
theorem d_Ma_init_72 : decode c_Ma_init 72 = .ok (.return_, 1) := by decide +kernel
theorem d_Se_init_0 : decode c_Se_init 0 = .ok (.aload_n 0, 1) := by decide +kernel
theorem d_Se_init_1 : decode c_Se_init 1 = .ok (.invokespecial 3, 3) := by decide +kernel
theorem d_Se_init_4 : decode c_Se_init 4 = .ok (.aload_n 0, 1) := by decide +kernel
theorem d_Se_init_5 : decode c_Se_init 5 = .ok (.sipush 1024, 3) := by decide +kernel
theorem d_Se_init_8 : decode c_Se_init 8 = .ok (.newarray .long, 2) := by decide +kernel
theorem d_Se_init_10 : decode c_Se_init 10 = .ok (.putfield 9, 3) := by decide +kernel
theorem d_Se_init_13 : decode c_Se_init 13 = .ok (.aload_n 0, 1) := by decide +kernel
theorem d_Se_init_14 : decode c_Se_init 14 = .ok (.bipush 64, 2) := by decide +kernel
theorem d_Se_init_16 : decode c_Se_init 16 = .ok (.newarray .int, 2) := by decide +kernel
theorem d_Se_init_18 : decode c_Se_init 18 = .ok (.putfield 15, 3) := by decide +kernel
theorem d_Se_init_21 : decode c_Se_init 21 = .ok (.aload_n 0, 1) := by decide +kernel
theorem d_Se_init_22 : decode c_Se_init 22 = .ok (.bipush 64, 2) := by decide +kernel
theorem d_Se_init_24 : decode c_Se_init 24 = .ok (.newarray .int, 2) := by decide +kernel
theorem d_Se_init_26 : decode c_Se_init 26 = .ok (.putfield 19, 3) := by decide +kernel
theorem d_Se_init_29 : decode c_Se_init 29 = .ok (.aload_n 0, 1) := by decide +kernel
theorem d_Se_init_30 : decode c_Se_init 30 = .ok (.bipush 64, 2) := by decide +kernel
theorem d_Se_init_32 : decode c_Se_init 32 = .ok (.newarray .int, 2) := by decide +kernel
theorem d_Se_init_34 : decode c_Se_init 34 = .ok (.putfield 22, 3) := by decide +kernel
theorem d_Se_init_37 : decode c_Se_init 37 = .ok (.aload_n 0, 1) := by decide +kernel
theorem d_Se_init_38 : decode c_Se_init 38 = .ok (.iconst 0, 1) := by decide +kernel
theorem d_Se_init_39 : decode c_Se_init 39 = .ok (.putfield 25, 3) := by decide +kernel
theorem d_Se_init_42 : decode c_Se_init 42 = .ok (.return_, 1) := by decide +kernel
theorem d_Wo_init_0 : decode c_Wo_init 0 = .ok (.aload_n 0, 1) := by decide +kernel
theorem d_Wo_init_1 : decode c_Wo_init 1 = .ok (.invokespecial 3, 3) := by decide +kernel
theorem d_Wo_init_4 : decode c_Wo_init 4 = .ok (.aload_n 0, 1) := by decide +kernel
theorem d_Wo_init_5 : decode c_Wo_init 5 = .ok (.bipush 30, 2) := by decide +kernel
theorem d_Wo_init_7 : decode c_Wo_init 7 = .ok (.newarray .int, 2) := by decide +kernel
theorem d_Wo_init_9 : decode c_Wo_init 9 = .ok (.putfield 9, 3) := by decide +kernel
theorem d_Wo_init_12 : decode c_Wo_init 12 = .ok (.aload_n 0, 1) := by decide +kernel
theorem d_Wo_init_13 : decode c_Wo_init 13 = .ok (.iconst 0, 1) := by decide +kernel
theorem d_Wo_init_14 : decode c_Wo_init 14 = .ok (.putfield 15, 3) := by decide +kernel
theorem d_Wo_init_17 : decode c_Wo_init 17 = .ok (.return_, 1) := by decide +kernel
theorem d_Ws_place_0 : decode c_Ws_place 0 = .ok (.aload_n 0, 1) := by decide +kernel
theorem d_Ws_place_1 : decode c_Ws_place 1 = .ok (.getfield 58, 3) := by decide +kernel
theorem d_Ws_place_4 : decode c_Ws_place 4 = .ok (.ireturn, 1) := by decide +kernel
theorem d_Ws_size_0 : decode c_Ws_size 0 = .ok (.aload_n 0, 1) := by decide +kernel
theorem d_Ws_size_1 : decode c_Ws_size 1 = .ok (.getfield 51, 3) := by decide +kernel
theorem d_Ws_size_4 : decode c_Ws_size 4 = .ok (.getfield 122, 3) := by decide +kernel
theorem d_Ws_size_7 : decode c_Ws_size 7 = .ok (.ireturn, 1) := by decide +kernel
theorem d_Ws_feed_0 : decode c_Ws_feed 0 = .ok (.iload_n 3, 1) := by decide +kernel
theorem d_Ws_feed_1 : decode c_Ws_feed 1 = .ok (.iconst 1, 1) := by decide +kernel
theorem d_Ws_feed_2 : decode c_Ws_feed 2 = .ok (.if_icmp .lt 9, 3) := by decide +kernel
theorem d_Ws_feed_5 : decode c_Ws_feed 5 = .ok (.iload_n 3, 1) := by decide +kernel
theorem d_Ws_feed_6 : decode c_Ws_feed 6 = .ok (.bipush 8, 2) := by decide +kernel
theorem d_Ws_feed_8 : decode c_Ws_feed 8 = .ok (.if_icmp .le 13, 3) := by decide +kernel
theorem d_Ws_feed_11 : decode c_Ws_feed 11 = .ok (.new 62, 3) := by decide +kernel
theorem d_Ws_feed_14 : decode c_Ws_feed 14 = .ok (.dup, 1) := by decide +kernel
theorem d_Ws_feed_15 : decode c_Ws_feed 15 = .ok (.ldc 64, 2) := by decide +kernel
theorem d_Ws_feed_17 : decode c_Ws_feed 17 = .ok (.invokespecial 66, 3) := by decide +kernel
theorem d_Ws_feed_20 : decode c_Ws_feed 20 = .ok (.athrow, 1) := by decide +kernel
theorem d_Ws_feed_21 : decode c_Ws_feed 21 = .ok (.aload_n 0, 1) := by decide +kernel
theorem d_Ws_feed_22 : decode c_Ws_feed 22 = .ok (.getfield 10, 3) := by decide +kernel
theorem d_Ws_feed_25 : decode c_Ws_feed 25 = .ok (.lload_n 1, 1) := by decide +kernel
theorem d_Ws_feed_26 : decode c_Ws_feed 26 = .ok (.iload_n 3, 1) := by decide +kernel
theorem d_Ws_feed_27 : decode c_Ws_feed 27 = .ok (.invokevirtual 69, 3) := by decide +kernel
theorem d_Ws_feed_30 : decode c_Ws_feed 30 = .ok (.ifCond .ne 13, 3) := by decide +kernel
theorem d_Ws_feed_33 : decode c_Ws_feed 33 = .ok (.new 73, 3) := by decide +kernel
theorem d_Ws_feed_36 : decode c_Ws_feed 36 = .ok (.dup, 1) := by decide +kernel
theorem d_Ws_feed_37 : decode c_Ws_feed 37 = .ok (.ldc 75, 2) := by decide +kernel
theorem d_Ws_feed_39 : decode c_Ws_feed 39 = .ok (.invokespecial 77, 3) := by decide +kernel
theorem d_Ws_feed_42 : decode c_Ws_feed 42 = .ok (.athrow, 1) := by decide +kernel
theorem d_Ws_feed_43 : decode c_Ws_feed 43 = .ok (.aload_n 0, 1) := by decide +kernel
theorem d_Ws_feed_44 : decode c_Ws_feed 44 = .ok (.getfield 10, 3) := by decide +kernel
theorem d_Ws_feed_47 : decode c_Ws_feed 47 = .ok (.getfield 78, 3) := by decide +kernel
theorem d_Ws_feed_50 : decode c_Ws_feed 50 = .ok (.ireturn, 1) := by decide +kernel
theorem d_Ta_append_0 : decode c_Ta_append 0 = .ok (.aload_n 0, 1) := by decide +kernel
theorem d_Ta_append_1 : decode c_Ta_append 1 = .ok (.getfield 15, 3) := by decide +kernel
theorem d_Ta_append_4 : decode c_Ta_append 4 = .ok (.iload_n 3, 1) := by decide +kernel
theorem d_Ta_append_5 : decode c_Ta_append 5 = .ok (.iadd, 1) := by decide +kernel
theorem d_Ta_append_6 : decode c_Ta_append 6 = .ok (.bipush 80, 2) := by decide +kernel
theorem d_Ta_append_8 : decode c_Ta_append 8 = .ok (.if_icmp .le 5, 3) := by decide +kernel
theorem d_Ta_append_11 : decode c_Ta_append 11 = .ok (.iconst 0, 1) := by decide +kernel
theorem d_Ta_append_12 : decode c_Ta_append 12 = .ok (.ireturn, 1) := by decide +kernel
theorem d_Ta_append_13 : decode c_Ta_append 13 = .ok (.iload_n 3, 1) := by decide +kernel
theorem d_Ta_append_14 : decode c_Ta_append 14 = .ok (.iconst 1, 1) := by decide +kernel
theorem d_Ta_append_15 : decode c_Ta_append 15 = .ok (.isub, 1) := by decide +kernel
theorem d_Ta_append_16 : decode c_Ta_append 16 = .ok (.istore 4, 2) := by decide +kernel
theorem d_Ta_append_18 : decode c_Ta_append 18 = .ok (.iload 4, 2) := by decide +kernel
theorem d_Ta_append_20 : decode c_Ta_append 20 = .ok (.ifCond .lt 40, 3) := by decide +kernel
theorem d_Ta_append_23 : decode c_Ta_append 23 = .ok (.aload_n 0, 1) := by decide +kernel
theorem d_Ta_append_24 : decode c_Ta_append 24 = .ok (.getfield 9, 3) := by decide +kernel
theorem d_Ta_append_27 : decode c_Ta_append 27 = .ok (.aload_n 0, 1) := by decide +kernel
theorem d_Ta_append_28 : decode c_Ta_append 28 = .ok (.getfield 15, 3) := by decide +kernel
theorem d_Ta_append_31 : decode c_Ta_append 31 = .ok (.lload_n 1, 1) := by decide +kernel
theorem d_Ta_append_32 : decode c_Ta_append 32 = .ok (.bipush 8, 2) := by decide +kernel
theorem d_Ta_append_34 : decode c_Ta_append 34 = .ok (.iload 4, 2) := by decide +kernel
theorem d_Ta_append_36 : decode c_Ta_append 36 = .ok (.imul, 1) := by decide +kernel
theorem d_Ta_append_37 : decode c_Ta_append 37 = .ok (.lushr, 1) := by decide +kernel
theorem d_Ta_append_38 : decode c_Ta_append 38 = .ok (.l2i, 1) := by decide +kernel
theorem d_Ta_append_39 : decode c_Ta_append 39 = .ok (.sipush 255, 3) := by decide +kernel
theorem d_Ta_append_42 : decode c_Ta_append 42 = .ok (.iand, 1) := by decide +kernel
theorem d_Ta_append_43 : decode c_Ta_append 43 = .ok (.iastore, 1) := by decide +kernel
theorem d_Ta_append_44 : decode c_Ta_append 44 = .ok (.aload_n 0, 1) := by decide +kernel
theorem d_Ta_append_45 : decode c_Ta_append 45 = .ok (.dup, 1) := by decide +kernel
theorem d_Ta_append_46 : decode c_Ta_append 46 = .ok (.getfield 15, 3) := by decide +kernel
theorem d_Ta_append_49 : decode c_Ta_append 49 = .ok (.iconst 1, 1) := by decide +kernel
theorem d_Ta_append_50 : decode c_Ta_append 50 = .ok (.iadd, 1) := by decide +kernel
theorem d_Ta_append_51 : decode c_Ta_append 51 = .ok (.putfield 15, 3) := by decide +kernel
theorem d_Ta_append_54 : decode c_Ta_append 54 = .ok (.iinc 4 (-1), 3) := by decide +kernel
theorem d_Ta_append_57 : decode c_Ta_append 57 = .ok (.goto (-39), 3) := by decide +kernel
theorem d_Ta_append_60 : decode c_Ta_append 60 = .ok (.iconst 1, 1) := by decide +kernel
theorem d_Ta_append_61 : decode c_Ta_append 61 = .ok (.ireturn, 1) := by decide +kernel
theorem d_Ws_read_0 : decode c_Ws_read 0 = .ok (.aload_n 0, 1) := by decide +kernel
theorem d_Ws_read_1 : decode c_Ws_read 1 = .ok (.getfield 10, 3) := by decide +kernel
theorem d_Ws_read_4 : decode c_Ws_read 4 = .ok (.invokevirtual 81, 3) := by decide +kernel
theorem d_Ws_read_7 : decode c_Ws_read 7 = .ok (.istore_n 2, 1) := by decide +kernel
theorem d_Ws_read_8 : decode c_Ws_read 8 = .ok (.iload_n 1, 1) := by decide +kernel
theorem d_Ws_read_9 : decode c_Ws_read 9 = .ok (.invokestatic 85, 3) := by decide +kernel
theorem d_Ws_read_12 : decode c_Ws_read 12 = .ok (.aload_n 0, 1) := by decide +kernel
theorem d_Ws_read_13 : decode c_Ws_read 13 = .ok (.aload_n 0, 1) := by decide +kernel
theorem d_Ws_read_14 : decode c_Ws_read 14 = .ok (.getfield 30, 3) := by decide +kernel
theorem d_Ws_read_17 : decode c_Ws_read 17 = .ok (.aload_n 0, 1) := by decide +kernel
theorem d_Ws_read_18 : decode c_Ws_read 18 = .ok (.getfield 10, 3) := by decide +kernel
theorem d_Ws_read_21 : decode c_Ws_read 21 = .ok (.getfield 89, 3) := by decide +kernel
theorem d_Ws_read_24 : decode c_Ws_read 24 = .ok (.iload_n 2, 1) := by decide +kernel
theorem d_Ws_read_25 : decode c_Ws_read 25 = .ok (.aload_n 0, 1) := by decide +kernel
theorem d_Ws_read_26 : decode c_Ws_read 26 = .ok (.getfield 55, 3) := by decide +kernel
theorem d_Ws_read_29 : decode c_Ws_read 29 = .ok (.invokevirtual 93, 3) := by decide +kernel
theorem d_Ws_read_32 : decode c_Ws_read 32 = .ok (.putfield 58, 3) := by decide +kernel
theorem d_Ws_read_35 : decode c_Ws_read 35 = .ok (.aload_n 0, 1) := by decide +kernel
theorem d_Ws_read_36 : decode c_Ws_read 36 = .ok (.getfield 58, 3) := by decide +kernel
theorem d_Ws_read_39 : decode c_Ws_read 39 = .ok (.ifCond .lt 13, 3) := by decide +kernel
theorem d_Ws_read_42 : decode c_Ws_read 42 = .ok (.new 62, 3) := by decide +kernel
theorem d_Ws_read_45 : decode c_Ws_read 45 = .ok (.dup, 1) := by decide +kernel
theorem d_Ws_read_46 : decode c_Ws_read 46 = .ok (.ldc 97, 2) := by decide +kernel
theorem d_Ws_read_48 : decode c_Ws_read 48 = .ok (.invokespecial 66, 3) := by decide +kernel
theorem d_Ws_read_51 : decode c_Ws_read 51 = .ok (.athrow, 1) := by decide +kernel
theorem d_Ws_read_52 : decode c_Ws_read 52 = .ok (.aload_n 0, 1) := by decide +kernel
theorem d_Ws_read_53 : decode c_Ws_read 53 = .ok (.iload_n 1, 1) := by decide +kernel
theorem d_Ws_read_54 : decode c_Ws_read 54 = .ok (.invokevirtual 99, 3) := by decide +kernel
theorem d_Ws_read_57 : decode c_Ws_read 57 = .ok (.aload_n 0, 1) := by decide +kernel
theorem d_Ws_read_58 : decode c_Ws_read 58 = .ok (.getfield 18, 3) := by decide +kernel
theorem d_Ws_read_61 : decode c_Ws_read 61 = .ok (.iload_n 1, 1) := by decide +kernel
theorem d_Ws_read_62 : decode c_Ws_read 62 = .ok (.aaload, 1) := by decide +kernel
theorem d_Ws_read_63 : decode c_Ws_read 63 = .ok (.getfield 102, 3) := by decide +kernel
theorem d_Ws_read_66 : decode c_Ws_read 66 = .ok (.ireturn, 1) := by decide +kernel
theorem d_Ta_useUp_0 : decode c_Ta_useUp 0 = .ok (.aload_n 0, 1) := by decide +kernel
theorem d_Ta_useUp_1 : decode c_Ta_useUp 1 = .ok (.getfield 15, 3) := by decide +kernel
theorem d_Ta_useUp_4 : decode c_Ta_useUp 4 = .ok (.istore_n 1, 1) := by decide +kernel
theorem d_Ta_useUp_5 : decode c_Ta_useUp 5 = .ok (.aload_n 0, 1) := by decide +kernel
theorem d_Ta_useUp_6 : decode c_Ta_useUp 6 = .ok (.iconst 0, 1) := by decide +kernel
theorem d_Ta_useUp_7 : decode c_Ta_useUp 7 = .ok (.putfield 15, 3) := by decide +kernel
theorem d_Ta_useUp_10 : decode c_Ta_useUp 10 = .ok (.iload_n 1, 1) := by decide +kernel
theorem d_Ta_useUp_11 : decode c_Ta_useUp 11 = .ok (.ireturn, 1) := by decide +kernel
theorem d_Ws_checkSlot_0 : decode c_Ws_checkSlot 0 = .ok (.iload_n 0, 1) := by decide +kernel
theorem d_Ws_checkSlot_1 : decode c_Ws_checkSlot 1 = .ok (.ifCond .lt 8, 3) := by decide +kernel
theorem d_Ws_checkSlot_4 : decode c_Ws_checkSlot 4 = .ok (.iload_n 0, 1) := by decide +kernel
theorem d_Ws_checkSlot_5 : decode c_Ws_checkSlot 5 = .ok (.iconst 4, 1) := by decide +kernel
theorem d_Ws_checkSlot_6 : decode c_Ws_checkSlot 6 = .ok (.if_icmp .lt 13, 3) := by decide +kernel
theorem d_Ws_checkSlot_9 : decode c_Ws_checkSlot 9 = .ok (.new 62, 3) := by decide +kernel
theorem d_Ws_checkSlot_12 : decode c_Ws_checkSlot 12 = .ok (.dup, 1) := by decide +kernel
theorem d_Ws_checkSlot_13 : decode c_Ws_checkSlot 13 = .ok (.ldc 156, 2) := by decide +kernel
theorem d_Ws_checkSlot_15 : decode c_Ws_checkSlot 15 = .ok (.invokespecial 66, 3) := by decide +kernel
theorem d_Ws_checkSlot_18 : decode c_Ws_checkSlot 18 = .ok (.athrow, 1) := by decide +kernel
theorem d_Ws_checkSlot_19 : decode c_Ws_checkSlot 19 = .ok (.return_, 1) := by decide +kernel
theorem d_Pr_parse_0 : decode c_Pr_parse 0 = .ok (.aload_n 3, 1) := by decide +kernel
theorem d_Pr_parse_1 : decode c_Pr_parse 1 = .ok (.invokevirtual 33, 3) := by decide +kernel
theorem d_Pr_parse_4 : decode c_Pr_parse 4 = .ok (.aload_n 0, 1) := by decide +kernel
theorem d_Pr_parse_5 : decode c_Pr_parse 5 = .ok (.iconst 0, 1) := by decide +kernel
theorem d_Pr_parse_6 : decode c_Pr_parse 6 = .ok (.putfield 29, 3) := by decide +kernel
theorem d_Pr_parse_9 : decode c_Pr_parse 9 = .ok (.aload_n 0, 1) := by decide +kernel
theorem d_Pr_parse_10 : decode c_Pr_parse 10 = .ok (.iconst 0, 1) := by decide +kernel
theorem d_Pr_parse_11 : decode c_Pr_parse 11 = .ok (.putfield 25, 3) := by decide +kernel
theorem d_Pr_parse_14 : decode c_Pr_parse 14 = .ok (.aload_n 0, 1) := by decide +kernel
theorem d_Pr_parse_15 : decode c_Pr_parse 15 = .ok (.invokevirtual 38, 3) := by decide +kernel
theorem d_Pr_parse_18 : decode c_Pr_parse 18 = .ok (.iconst 0, 1) := by decide +kernel
theorem d_Pr_parse_19 : decode c_Pr_parse 19 = .ok (.istore 4, 2) := by decide +kernel
theorem d_Pr_parse_21 : decode c_Pr_parse 21 = .ok (.iload 4, 2) := by decide +kernel
theorem d_Pr_parse_23 : decode c_Pr_parse 23 = .ok (.iload_n 2, 1) := by decide +kernel
theorem d_Pr_parse_24 : decode c_Pr_parse 24 = .ok (.if_icmp .ge 24, 3) := by decide +kernel
theorem d_Pr_parse_27 : decode c_Pr_parse 27 = .ok (.aload_n 0, 1) := by decide +kernel
theorem d_Pr_parse_28 : decode c_Pr_parse 28 = .ok (.aload_n 1, 1) := by decide +kernel
theorem d_Pr_parse_29 : decode c_Pr_parse 29 = .ok (.iload 4, 2) := by decide +kernel
theorem d_Pr_parse_31 : decode c_Pr_parse 31 = .ok (.iaload, 1) := by decide +kernel
theorem d_Pr_parse_32 : decode c_Pr_parse 32 = .ok (.aload_n 3, 1) := by decide +kernel
theorem d_Pr_parse_33 : decode c_Pr_parse 33 = .ok (.invokevirtual 41, 3) := by decide +kernel
theorem d_Pr_parse_36 : decode c_Pr_parse 36 = .ok (.ifCond .ne 6, 3) := by decide +kernel
theorem d_Pr_parse_39 : decode c_Pr_parse 39 = .ok (.iload 4, 2) := by decide +kernel
theorem d_Pr_parse_41 : decode c_Pr_parse 41 = .ok (.ireturn, 1) := by decide +kernel
theorem d_Pr_parse_42 : decode c_Pr_parse 42 = .ok (.iinc 4 1, 3) := by decide +kernel
theorem d_Pr_parse_45 : decode c_Pr_parse 45 = .ok (.goto (-24), 3) := by decide +kernel
theorem d_Pr_parse_48 : decode c_Pr_parse 48 = .ok (.aload_n 0, 1) := by decide +kernel
theorem d_Pr_parse_49 : decode c_Pr_parse 49 = .ok (.aload_n 3, 1) := by decide +kernel
theorem d_Pr_parse_50 : decode c_Pr_parse 50 = .ok (.invokevirtual 45, 3) := by decide +kernel
theorem d_Pr_parse_53 : decode c_Pr_parse 53 = .ok (.ifCond .eq 10, 3) := by decide +kernel
theorem d_Pr_parse_56 : decode c_Pr_parse 56 = .ok (.aload_n 0, 1) := by decide +kernel
theorem d_Pr_parse_57 : decode c_Pr_parse 57 = .ok (.getfield 29, 3) := by decide +kernel
theorem d_Pr_parse_60 : decode c_Pr_parse 60 = .ok (.ifCond .le 5, 3) := by decide +kernel
theorem d_Pr_parse_63 : decode c_Pr_parse 63 = .ok (.iload_n 2, 1) := by decide +kernel
theorem d_Pr_parse_64 : decode c_Pr_parse 64 = .ok (.ireturn, 1) := by decide +kernel
theorem d_Pr_parse_65 : decode c_Pr_parse 65 = .ok (.aload_n 0, 1) := by decide +kernel
theorem d_Pr_parse_66 : decode c_Pr_parse 66 = .ok (.invokevirtual 49, 3) := by decide +kernel
theorem d_Pr_parse_69 : decode c_Pr_parse 69 = .ok (.aload_n 3, 1) := by decide +kernel
theorem d_Pr_parse_70 : decode c_Pr_parse 70 = .ok (.aload_n 0, 1) := by decide +kernel
theorem d_Pr_parse_71 : decode c_Pr_parse 71 = .ok (.getfield 11, 3) := by decide +kernel
theorem d_Pr_parse_74 : decode c_Pr_parse 74 = .ok (.iconst 0, 1) := by decide +kernel
theorem d_Pr_parse_75 : decode c_Pr_parse 75 = .ok (.aaload, 1) := by decide +kernel
theorem d_Pr_parse_76 : decode c_Pr_parse 76 = .ok (.invokevirtual 52, 3) := by decide +kernel
theorem d_Pr_parse_79 : decode c_Pr_parse 79 = .ok (.iconst (-1), 1) := by decide +kernel
theorem d_Pr_parse_80 : decode c_Pr_parse 80 = .ok (.ireturn, 1) := by decide +kernel
theorem d_Ex_clear_0 : decode c_Ex_clear 0 = .ok (.aload_n 0, 1) := by decide +kernel
theorem d_Ex_clear_1 : decode c_Ex_clear 1 = .ok (.getfield 11, 3) := by decide +kernel
theorem d_Ex_clear_4 : decode c_Ex_clear 4 = .ok (.iconst 0, 1) := by decide +kernel
theorem d_Ex_clear_5 : decode c_Ex_clear 5 = .ok (.invokestatic 25, 3) := by decide +kernel
theorem d_Ex_clear_8 : decode c_Ex_clear 8 = .ok (.aload_n 0, 1) := by decide +kernel
theorem d_Ex_clear_9 : decode c_Ex_clear 9 = .ok (.getfield 15, 3) := by decide +kernel
theorem d_Ex_clear_12 : decode c_Ex_clear 12 = .ok (.iconst 0, 1) := by decide +kernel
theorem d_Ex_clear_13 : decode c_Ex_clear 13 = .ok (.invokestatic 25, 3) := by decide +kernel
theorem d_Ex_clear_16 : decode c_Ex_clear 16 = .ok (.aload_n 0, 1) := by decide +kernel
theorem d_Ex_clear_17 : decode c_Ex_clear 17 = .ok (.iconst 0, 1) := by decide +kernel
theorem d_Ex_clear_18 : decode c_Ex_clear 18 = .ok (.putfield 18, 3) := by decide +kernel
theorem d_Ex_clear_21 : decode c_Ex_clear 21 = .ok (.aload_n 0, 1) := by decide +kernel
theorem d_Ex_clear_22 : decode c_Ex_clear 22 = .ok (.iconst 0, 1) := by decide +kernel
theorem d_Ex_clear_23 : decode c_Ex_clear 23 = .ok (.putfield 22, 3) := by decide +kernel
theorem d_Ex_clear_26 : decode c_Ex_clear 26 = .ok (.return_, 1) := by decide +kernel
theorem d_Pr_beginSum_0 : decode c_Pr_beginSum 0 = .ok (.aload_n 0, 1) := by decide +kernel
theorem d_Pr_beginSum_1 : decode c_Pr_beginSum 1 = .ok (.getfield 11, 3) := by decide +kernel
theorem d_Pr_beginSum_4 : decode c_Pr_beginSum 4 = .ok (.aload_n 0, 1) := by decide +kernel
theorem d_Pr_beginSum_5 : decode c_Pr_beginSum 5 = .ok (.getfield 29, 3) := by decide +kernel
theorem d_Pr_beginSum_8 : decode c_Pr_beginSum 8 = .ok (.aaload, 1) := by decide +kernel
theorem d_Pr_beginSum_9 : decode c_Pr_beginSum 9 = .ok (.iconst 0, 1) := by decide +kernel
theorem d_Pr_beginSum_10 : decode c_Pr_beginSum 10 = .ok (.iconst 0, 1) := by decide +kernel
theorem d_Pr_beginSum_11 : decode c_Pr_beginSum 11 = .ok (.iconst 0, 1) := by decide +kernel
theorem d_Pr_beginSum_12 : decode c_Pr_beginSum 12 = .ok (.invokevirtual 93, 3) := by decide +kernel
theorem d_Pr_beginSum_15 : decode c_Pr_beginSum 15 = .ok (.aload_n 0, 1) := by decide +kernel
theorem d_Pr_beginSum_16 : decode c_Pr_beginSum 16 = .ok (.getfield 17, 3) := by decide +kernel
theorem d_Pr_beginSum_19 : decode c_Pr_beginSum 19 = .ok (.aload_n 0, 1) := by decide +kernel
theorem d_Pr_beginSum_20 : decode c_Pr_beginSum 20 = .ok (.getfield 29, 3) := by decide +kernel
theorem d_Pr_beginSum_23 : decode c_Pr_beginSum 23 = .ok (.aaload, 1) := by decide +kernel
theorem d_Pr_beginSum_24 : decode c_Pr_beginSum 24 = .ok (.iconst 0, 1) := by decide +kernel
theorem d_Pr_beginSum_25 : decode c_Pr_beginSum 25 = .ok (.iconst 0, 1) := by decide +kernel
theorem d_Pr_beginSum_26 : decode c_Pr_beginSum 26 = .ok (.iconst 1, 1) := by decide +kernel
theorem d_Pr_beginSum_27 : decode c_Pr_beginSum 27 = .ok (.invokevirtual 93, 3) := by decide +kernel
theorem d_Pr_beginSum_30 : decode c_Pr_beginSum 30 = .ok (.return_, 1) := by decide +kernel
theorem d_Pt_become_0 : decode c_Pt_become 0 = .ok (.aload_n 0, 1) := by decide +kernel
theorem d_Pt_become_1 : decode c_Pt_become 1 = .ok (.iload_n 1, 1) := by decide +kernel
theorem d_Pt_become_2 : decode c_Pt_become 2 = .ok (.putfield 7, 3) := by decide +kernel
theorem d_Pt_become_5 : decode c_Pt_become 5 = .ok (.aload_n 0, 1) := by decide +kernel
theorem d_Pt_become_6 : decode c_Pt_become 6 = .ok (.iload_n 2, 1) := by decide +kernel
theorem d_Pt_become_7 : decode c_Pt_become 7 = .ok (.putfield 13, 3) := by decide +kernel
theorem d_Pt_become_10 : decode c_Pt_become 10 = .ok (.aload_n 0, 1) := by decide +kernel
theorem d_Pt_become_11 : decode c_Pt_become 11 = .ok (.iload_n 3, 1) := by decide +kernel
theorem d_Pt_become_12 : decode c_Pt_become 12 = .ok (.putfield 16, 3) := by decide +kernel
theorem d_Pt_become_15 : decode c_Pt_become 15 = .ok (.return_, 1) := by decide +kernel
theorem d_Pr_accept_0 : decode c_Pr_accept 0 = .ok (.iload_n 1, 1) := by decide +kernel
theorem d_Pr_accept_1 : decode c_Pr_accept 1 = .ok (.bipush 42, 2) := by decide +kernel
theorem d_Pr_accept_3 : decode c_Pr_accept 3 = .ok (.if_icmp .eq 15, 3) := by decide +kernel
theorem d_Pr_accept_6 : decode c_Pr_accept 6 = .ok (.iload_n 1, 1) := by decide +kernel
theorem d_Pr_accept_7 : decode c_Pr_accept 7 = .ok (.bipush 43, 2) := by decide +kernel
theorem d_Pr_accept_9 : decode c_Pr_accept 9 = .ok (.if_icmp .eq 9, 3) := by decide +kernel
theorem d_Pr_accept_12 : decode c_Pr_accept 12 = .ok (.iload_n 1, 1) := by decide +kernel
theorem d_Pr_accept_13 : decode c_Pr_accept 13 = .ok (.bipush 63, 2) := by decide +kernel
theorem d_Pr_accept_15 : decode c_Pr_accept 15 = .ok (.if_icmp .ne 10, 3) := by decide +kernel
theorem d_Pr_accept_18 : decode c_Pr_accept 18 = .ok (.aload_n 0, 1) := by decide +kernel
theorem d_Pr_accept_19 : decode c_Pr_accept 19 = .ok (.iload_n 1, 1) := by decide +kernel
theorem d_Pr_accept_20 : decode c_Pr_accept 20 = .ok (.aload_n 2, 1) := by decide +kernel
theorem d_Pr_accept_21 : decode c_Pr_accept 21 = .ok (.invokevirtual 56, 3) := by decide +kernel
theorem d_Pr_accept_24 : decode c_Pr_accept 24 = .ok (.ireturn, 1) := by decide +kernel
theorem d_Pr_accept_25 : decode c_Pr_accept 25 = .ok (.aload_n 0, 1) := by decide +kernel
theorem d_Pr_accept_26 : decode c_Pr_accept 26 = .ok (.aload_n 2, 1) := by decide +kernel
theorem d_Pr_accept_27 : decode c_Pr_accept 27 = .ok (.invokevirtual 45, 3) := by decide +kernel
theorem d_Pr_accept_30 : decode c_Pr_accept 30 = .ok (.istore_n 3, 1) := by decide +kernel
theorem d_Pr_accept_31 : decode c_Pr_accept 31 = .ok (.iload_n 1, 1) := by decide +kernel
theorem d_Pr_accept_32 : decode c_Pr_accept 32 = .ok (.lookupswitch 141 #[(40, 113), (41, 118), (48, 94), (49, 94), (97, 84), (98, 84), (99, 84), (100, 84), (124, 135)], 84) := by decide +kernel
theorem d_Pr_accept_116 : decode c_Pr_accept 116 = .ok (.aload_n 0, 1) := by decide +kernel
theorem d_Pr_accept_117 : decode c_Pr_accept 117 = .ok (.iload_n 1, 1) := by decide +kernel
theorem d_Pr_accept_118 : decode c_Pr_accept 118 = .ok (.bipush 97, 2) := by decide +kernel
theorem d_Pr_accept_120 : decode c_Pr_accept 120 = .ok (.isub, 1) := by decide +kernel
theorem d_Pr_accept_121 : decode c_Pr_accept 121 = .ok (.aload_n 2, 1) := by decide +kernel
theorem d_Pr_accept_122 : decode c_Pr_accept 122 = .ok (.invokevirtual 59, 3) := by decide +kernel
theorem d_Pr_accept_125 : decode c_Pr_accept 125 = .ok (.ireturn, 1) := by decide +kernel
theorem d_Pr_accept_126 : decode c_Pr_accept 126 = .ok (.aload_n 0, 1) := by decide +kernel
theorem d_Pr_accept_127 : decode c_Pr_accept 127 = .ok (.iconst 0, 1) := by decide +kernel
theorem d_Pr_accept_128 : decode c_Pr_accept 128 = .ok (.iconst 0, 1) := by decide +kernel
theorem d_Pr_accept_129 : decode c_Pr_accept 129 = .ok (.iload_n 1, 1) := by decide +kernel
theorem d_Pr_accept_130 : decode c_Pr_accept 130 = .ok (.bipush 49, 2) := by decide +kernel
theorem d_Pr_accept_132 : decode c_Pr_accept 132 = .ok (.if_icmp .ne 7, 3) := by decide +kernel
theorem d_Pr_accept_135 : decode c_Pr_accept 135 = .ok (.iconst 1, 1) := by decide +kernel
theorem d_Pr_accept_136 : decode c_Pr_accept 136 = .ok (.goto 4, 3) := by decide +kernel
theorem d_Pr_accept_139 : decode c_Pr_accept 139 = .ok (.iconst 0, 1) := by decide +kernel
theorem d_Pr_accept_140 : decode c_Pr_accept 140 = .ok (.invokevirtual 62, 3) := by decide +kernel
theorem d_Pr_accept_143 : decode c_Pr_accept 143 = .ok (.iconst 1, 1) := by decide +kernel
theorem d_Pr_accept_144 : decode c_Pr_accept 144 = .ok (.ireturn, 1) := by decide +kernel
theorem d_Pr_accept_145 : decode c_Pr_accept 145 = .ok (.aload_n 0, 1) := by decide +kernel
theorem d_Pr_accept_146 : decode c_Pr_accept 146 = .ok (.invokevirtual 66, 3) := by decide +kernel
theorem d_Pr_accept_149 : decode c_Pr_accept 149 = .ok (.ireturn, 1) := by decide +kernel
theorem d_Pr_accept_150 : decode c_Pr_accept 150 = .ok (.iload_n 3, 1) := by decide +kernel
theorem d_Pr_accept_151 : decode c_Pr_accept 151 = .ok (.ifCond .eq 14, 3) := by decide +kernel
theorem d_Pr_accept_154 : decode c_Pr_accept 154 = .ok (.aload_n 0, 1) := by decide +kernel
theorem d_Pr_accept_155 : decode c_Pr_accept 155 = .ok (.invokevirtual 70, 3) := by decide +kernel
theorem d_Pr_accept_158 : decode c_Pr_accept 158 = .ok (.ifCond .eq 7, 3) := by decide +kernel
theorem d_Pr_accept_161 : decode c_Pr_accept 161 = .ok (.iconst 1, 1) := by decide +kernel
theorem d_Pr_accept_162 : decode c_Pr_accept 162 = .ok (.goto 4, 3) := by decide +kernel
theorem d_Pr_accept_165 : decode c_Pr_accept 165 = .ok (.iconst 0, 1) := by decide +kernel
theorem d_Pr_accept_166 : decode c_Pr_accept 166 = .ok (.ireturn, 1) := by decide +kernel
theorem d_Pr_accept_167 : decode c_Pr_accept 167 = .ok (.aload_n 0, 1) := by decide +kernel
theorem d_Pr_accept_168 : decode c_Pr_accept 168 = .ok (.invokevirtual 49, 3) := by decide +kernel
theorem d_Pr_accept_171 : decode c_Pr_accept 171 = .ok (.iload_n 3, 1) := by decide +kernel
theorem d_Pr_accept_172 : decode c_Pr_accept 172 = .ok (.ireturn, 1) := by decide +kernel
theorem d_Pr_accept_173 : decode c_Pr_accept 173 = .ok (.iconst 0, 1) := by decide +kernel
theorem d_Pr_accept_174 : decode c_Pr_accept 174 = .ok (.ireturn, 1) := by decide +kernel
theorem d_Pr_acceptRepeat_0 : decode c_Pr_acceptRepeat 0 = .ok (.aload_n 0, 1) := by decide +kernel
theorem d_Pr_acceptRepeat_1 : decode c_Pr_acceptRepeat 1 = .ok (.getfield 25, 3) := by decide +kernel
theorem d_Pr_acceptRepeat_4 : decode c_Pr_acceptRepeat 4 = .ok (.ifCond .eq 12, 3) := by decide +kernel
theorem d_Pr_acceptRepeat_7 : decode c_Pr_acceptRepeat 7 = .ok (.aload_n 0, 1) := by decide +kernel
theorem d_Pr_acceptRepeat_8 : decode c_Pr_acceptRepeat 8 = .ok (.getfield 21, 3) := by decide +kernel
theorem d_Pr_acceptRepeat_11 : decode c_Pr_acceptRepeat 11 = .ok (.iload_n 1, 1) := by decide +kernel
theorem d_Pr_acceptRepeat_12 : decode c_Pr_acceptRepeat 12 = .ok (.aload_n 2, 1) := by decide +kernel
theorem d_Pr_acceptRepeat_13 : decode c_Pr_acceptRepeat 13 = .ok (.invokevirtual 73, 3) := by decide +kernel
theorem d_Pr_acceptRepeat_16 : decode c_Pr_acceptRepeat 16 = .ok (.aload_n 0, 1) := by decide +kernel
theorem d_Pr_acceptRepeat_17 : decode c_Pr_acceptRepeat 17 = .ok (.getfield 25, 3) := by decide +kernel
theorem d_Pr_acceptRepeat_20 : decode c_Pr_acceptRepeat 20 = .ok (.ireturn, 1) := by decide +kernel
theorem d_Pt_repeat_0 : decode c_Pt_repeat 0 = .ok (.iload_n 1, 1) := by decide +kernel
theorem d_Pt_repeat_1 : decode c_Pt_repeat 1 = .ok (.bipush 63, 2) := by decide +kernel
theorem d_Pt_repeat_3 : decode c_Pt_repeat 3 = .ok (.if_icmp .eq 15, 3) := by decide +kernel
theorem d_Pt_repeat_6 : decode c_Pt_repeat 6 = .ok (.aload_n 2, 1) := by decide +kernel
theorem d_Pt_repeat_7 : decode c_Pt_repeat 7 = .ok (.aload_n 0, 1) := by decide +kernel
theorem d_Pt_repeat_8 : decode c_Pt_repeat 8 = .ok (.getfield 13, 3) := by decide +kernel
theorem d_Pt_repeat_11 : decode c_Pt_repeat 11 = .ok (.aload_n 0, 1) := by decide +kernel
theorem d_Pt_repeat_12 : decode c_Pt_repeat 12 = .ok (.getfield 7, 3) := by decide +kernel
theorem d_Pt_repeat_15 : decode c_Pt_repeat 15 = .ok (.invokevirtual 24, 3) := by decide +kernel
theorem d_Pt_repeat_18 : decode c_Pt_repeat 18 = .ok (.aload_n 0, 1) := by decide +kernel
theorem d_Pt_repeat_19 : decode c_Pt_repeat 19 = .ok (.aload_n 0, 1) := by decide +kernel
theorem d_Pt_repeat_20 : decode c_Pt_repeat 20 = .ok (.getfield 16, 3) := by decide +kernel
theorem d_Pt_repeat_23 : decode c_Pt_repeat 23 = .ok (.ifCond .ne 9, 3) := by decide +kernel
theorem d_Pt_repeat_26 : decode c_Pt_repeat 26 = .ok (.iload_n 1, 1) := by decide +kernel
theorem d_Pt_repeat_27 : decode c_Pt_repeat 27 = .ok (.bipush 43, 2) := by decide +kernel
theorem d_Pt_repeat_29 : decode c_Pt_repeat 29 = .ok (.if_icmp .eq 7, 3) := by decide +kernel
theorem d_Pt_repeat_32 : decode c_Pt_repeat 32 = .ok (.iconst 1, 1) := by decide +kernel
theorem d_Pt_repeat_33 : decode c_Pt_repeat 33 = .ok (.goto 4, 3) := by decide +kernel
theorem d_Pt_repeat_36 : decode c_Pt_repeat 36 = .ok (.iconst 0, 1) := by decide +kernel
theorem d_Pt_repeat_37 : decode c_Pt_repeat 37 = .ok (.putfield 16, 3) := by decide +kernel
theorem d_Pt_repeat_40 : decode c_Pt_repeat 40 = .ok (.return_, 1) := by decide +kernel
theorem d_Ex_link_0 : decode c_Ex_link 0 = .ok (.iconst 0, 1) := by decide +kernel
theorem d_Ex_link_1 : decode c_Ex_link 1 = .ok (.istore_n 3, 1) := by decide +kernel
theorem d_Ex_link_2 : decode c_Ex_link 2 = .ok (.iload_n 3, 1) := by decide +kernel
theorem d_Ex_link_3 : decode c_Ex_link 3 = .ok (.bipush 8, 2) := by decide +kernel
theorem d_Ex_link_5 : decode c_Ex_link 5 = .ok (.if_icmp .gt 27, 3) := by decide +kernel
theorem d_Ex_link_8 : decode c_Ex_link 8 = .ok (.iload_n 1, 1) := by decide +kernel
theorem d_Ex_link_9 : decode c_Ex_link 9 = .ok (.iload_n 3, 1) := by decide +kernel
theorem d_Ex_link_10 : decode c_Ex_link 10 = .ok (.ishr, 1) := by decide +kernel
theorem d_Ex_link_11 : decode c_Ex_link 11 = .ok (.iconst 1, 1) := by decide +kernel
theorem d_Ex_link_12 : decode c_Ex_link 12 = .ok (.iand, 1) := by decide +kernel
theorem d_Ex_link_13 : decode c_Ex_link 13 = .ok (.ifCond .eq 13, 3) := by decide +kernel
theorem d_Ex_link_16 : decode c_Ex_link 16 = .ok (.aload_n 0, 1) := by decide +kernel
theorem d_Ex_link_17 : decode c_Ex_link 17 = .ok (.getfield 11, 3) := by decide +kernel
theorem d_Ex_link_20 : decode c_Ex_link 20 = .ok (.iload_n 3, 1) := by decide +kernel
theorem d_Ex_link_21 : decode c_Ex_link 21 = .ok (.dup2, 1) := by decide +kernel
theorem d_Ex_link_22 : decode c_Ex_link 22 = .ok (.iaload, 1) := by decide +kernel
theorem d_Ex_link_23 : decode c_Ex_link 23 = .ok (.iload_n 2, 1) := by decide +kernel
theorem d_Ex_link_24 : decode c_Ex_link 24 = .ok (.ior, 1) := by decide +kernel
theorem d_Ex_link_25 : decode c_Ex_link 25 = .ok (.iastore, 1) := by decide +kernel
theorem d_Ex_link_26 : decode c_Ex_link 26 = .ok (.iinc 3 1, 3) := by decide +kernel
theorem d_Ex_link_29 : decode c_Ex_link 29 = .ok (.goto (-27), 3) := by decide +kernel
theorem d_Ex_link_32 : decode c_Ex_link 32 = .ok (.return_, 1) := by decide +kernel
theorem d_Pr_joinFactor_0 : decode c_Pr_joinFactor 0 = .ok (.aload_n 0, 1) := by decide +kernel
theorem d_Pr_joinFactor_1 : decode c_Pr_joinFactor 1 = .ok (.getfield 25, 3) := by decide +kernel
theorem d_Pr_joinFactor_4 : decode c_Pr_joinFactor 4 = .ok (.istore_n 2, 1) := by decide +kernel
theorem d_Pr_joinFactor_5 : decode c_Pr_joinFactor 5 = .ok (.iload_n 2, 1) := by decide +kernel
theorem d_Pr_joinFactor_6 : decode c_Pr_joinFactor 6 = .ok (.ifCond .eq 20, 3) := by decide +kernel
theorem d_Pr_joinFactor_9 : decode c_Pr_joinFactor 9 = .ok (.aload_n 0, 1) := by decide +kernel
theorem d_Pr_joinFactor_10 : decode c_Pr_joinFactor 10 = .ok (.getfield 17, 3) := by decide +kernel
theorem d_Pr_joinFactor_13 : decode c_Pr_joinFactor 13 = .ok (.aload_n 0, 1) := by decide +kernel
theorem d_Pr_joinFactor_14 : decode c_Pr_joinFactor 14 = .ok (.getfield 29, 3) := by decide +kernel
theorem d_Pr_joinFactor_17 : decode c_Pr_joinFactor 17 = .ok (.aaload, 1) := by decide +kernel
theorem d_Pr_joinFactor_18 : decode c_Pr_joinFactor 18 = .ok (.aload_n 0, 1) := by decide +kernel
theorem d_Pr_joinFactor_19 : decode c_Pr_joinFactor 19 = .ok (.getfield 21, 3) := by decide +kernel
theorem d_Pr_joinFactor_22 : decode c_Pr_joinFactor 22 = .ok (.aload_n 1, 1) := by decide +kernel
theorem d_Pr_joinFactor_23 : decode c_Pr_joinFactor 23 = .ok (.invokevirtual 96, 3) := by decide +kernel
theorem d_Pr_joinFactor_26 : decode c_Pr_joinFactor 26 = .ok (.aload_n 0, 1) := by decide +kernel
theorem d_Pr_joinFactor_27 : decode c_Pr_joinFactor 27 = .ok (.iconst 0, 1) := by decide +kernel
theorem d_Pr_joinFactor_28 : decode c_Pr_joinFactor 28 = .ok (.putfield 25, 3) := by decide +kernel
theorem d_Pr_joinFactor_31 : decode c_Pr_joinFactor 31 = .ok (.iload_n 2, 1) := by decide +kernel
theorem d_Pr_joinFactor_32 : decode c_Pr_joinFactor 32 = .ok (.ireturn, 1) := by decide +kernel
theorem d_Pt_addBehind_0 : decode c_Pt_addBehind 0 = .ok (.aload_n 2, 1) := by decide +kernel
theorem d_Pt_addBehind_1 : decode c_Pt_addBehind 1 = .ok (.aload_n 0, 1) := by decide +kernel
theorem d_Pt_addBehind_2 : decode c_Pt_addBehind 2 = .ok (.getfield 13, 3) := by decide +kernel
theorem d_Pt_addBehind_5 : decode c_Pt_addBehind 5 = .ok (.aload_n 1, 1) := by decide +kernel
theorem d_Pt_addBehind_6 : decode c_Pt_addBehind 6 = .ok (.getfield 7, 3) := by decide +kernel
theorem d_Pt_addBehind_9 : decode c_Pt_addBehind 9 = .ok (.invokevirtual 24, 3) := by decide +kernel
theorem d_Pt_addBehind_12 : decode c_Pt_addBehind 12 = .ok (.aload_n 0, 1) := by decide +kernel
theorem d_Pt_addBehind_13 : decode c_Pt_addBehind 13 = .ok (.getfield 16, 3) := by decide +kernel
theorem d_Pt_addBehind_16 : decode c_Pt_addBehind 16 = .ok (.ifCond .eq 15, 3) := by decide +kernel
theorem d_Pt_addBehind_19 : decode c_Pt_addBehind 19 = .ok (.aload_n 0, 1) := by decide +kernel
theorem d_Pt_addBehind_20 : decode c_Pt_addBehind 20 = .ok (.getfield 7, 3) := by decide +kernel
theorem d_Pt_addBehind_23 : decode c_Pt_addBehind 23 = .ok (.aload_n 1, 1) := by decide +kernel
theorem d_Pt_addBehind_24 : decode c_Pt_addBehind 24 = .ok (.getfield 7, 3) := by decide +kernel
theorem d_Pt_addBehind_27 : decode c_Pt_addBehind 27 = .ok (.ior, 1) := by decide +kernel
theorem d_Pt_addBehind_28 : decode c_Pt_addBehind 28 = .ok (.goto 7, 3) := by decide +kernel
theorem d_Pt_addBehind_31 : decode c_Pt_addBehind 31 = .ok (.aload_n 0, 1) := by decide +kernel
theorem d_Pt_addBehind_32 : decode c_Pt_addBehind 32 = .ok (.getfield 7, 3) := by decide +kernel
theorem d_Pt_addBehind_35 : decode c_Pt_addBehind 35 = .ok (.istore_n 3, 1) := by decide +kernel
theorem d_Pt_addBehind_36 : decode c_Pt_addBehind 36 = .ok (.aload_n 1, 1) := by decide +kernel
theorem d_Pt_addBehind_37 : decode c_Pt_addBehind 37 = .ok (.getfield 16, 3) := by decide +kernel
theorem d_Pt_addBehind_40 : decode c_Pt_addBehind 40 = .ok (.ifCond .eq 15, 3) := by decide +kernel
theorem d_Pt_addBehind_43 : decode c_Pt_addBehind 43 = .ok (.aload_n 0, 1) := by decide +kernel
theorem d_Pt_addBehind_44 : decode c_Pt_addBehind 44 = .ok (.getfield 13, 3) := by decide +kernel
theorem d_Pt_addBehind_47 : decode c_Pt_addBehind 47 = .ok (.aload_n 1, 1) := by decide +kernel
theorem d_Pt_addBehind_48 : decode c_Pt_addBehind 48 = .ok (.getfield 13, 3) := by decide +kernel
theorem d_Pt_addBehind_51 : decode c_Pt_addBehind 51 = .ok (.ior, 1) := by decide +kernel
theorem d_Pt_addBehind_52 : decode c_Pt_addBehind 52 = .ok (.goto 7, 3) := by decide +kernel
theorem d_Pt_addBehind_55 : decode c_Pt_addBehind 55 = .ok (.aload_n 1, 1) := by decide +kernel
theorem d_Pt_addBehind_56 : decode c_Pt_addBehind 56 = .ok (.getfield 13, 3) := by decide +kernel
theorem d_Pt_addBehind_59 : decode c_Pt_addBehind 59 = .ok (.istore 4, 2) := by decide +kernel
theorem d_Pt_addBehind_61 : decode c_Pt_addBehind 61 = .ok (.aload_n 0, 1) := by decide +kernel
theorem d_Pt_addBehind_62 : decode c_Pt_addBehind 62 = .ok (.iload_n 3, 1) := by decide +kernel
theorem d_Pt_addBehind_63 : decode c_Pt_addBehind 63 = .ok (.iload 4, 2) := by decide +kernel
theorem d_Pt_addBehind_65 : decode c_Pt_addBehind 65 = .ok (.aload_n 0, 1) := by decide +kernel
theorem d_Pt_addBehind_66 : decode c_Pt_addBehind 66 = .ok (.getfield 16, 3) := by decide +kernel
theorem d_Pt_addBehind_69 : decode c_Pt_addBehind 69 = .ok (.ifCond .eq 14, 3) := by decide +kernel
theorem d_Pt_addBehind_72 : decode c_Pt_addBehind 72 = .ok (.aload_n 1, 1) := by decide +kernel
theorem d_Pt_addBehind_73 : decode c_Pt_addBehind 73 = .ok (.getfield 16, 3) := by decide +kernel
theorem d_Pt_addBehind_76 : decode c_Pt_addBehind 76 = .ok (.ifCond .eq 7, 3) := by decide +kernel
theorem d_Pt_addBehind_79 : decode c_Pt_addBehind 79 = .ok (.iconst 1, 1) := by decide +kernel
theorem d_Pt_addBehind_80 : decode c_Pt_addBehind 80 = .ok (.goto 4, 3) := by decide +kernel
theorem d_Pt_addBehind_83 : decode c_Pt_addBehind 83 = .ok (.iconst 0, 1) := by decide +kernel
theorem d_Pt_addBehind_84 : decode c_Pt_addBehind 84 = .ok (.invokevirtual 20, 3) := by decide +kernel
theorem d_Pt_addBehind_87 : decode c_Pt_addBehind 87 = .ok (.return_, 1) := by decide +kernel
theorem d_Pr_acceptLetter_0 : decode c_Pr_acceptLetter 0 = .ok (.aload_n 2, 1) := by decide +kernel
theorem d_Pr_acceptLetter_1 : decode c_Pr_acceptLetter 1 = .ok (.getfield 77, 3) := by decide +kernel
theorem d_Pr_acceptLetter_4 : decode c_Pr_acceptLetter 4 = .ok (.bipush 8, 2) := by decide +kernel
theorem d_Pr_acceptLetter_6 : decode c_Pr_acceptLetter 6 = .ok (.if_icmp .lt 5, 3) := by decide +kernel
theorem d_Pr_acceptLetter_9 : decode c_Pr_acceptLetter 9 = .ok (.iconst 0, 1) := by decide +kernel
theorem d_Pr_acceptLetter_10 : decode c_Pr_acceptLetter 10 = .ok (.ireturn, 1) := by decide +kernel
theorem d_Pr_acceptLetter_11 : decode c_Pr_acceptLetter 11 = .ok (.aload_n 2, 1) := by decide +kernel
theorem d_Pr_acceptLetter_12 : decode c_Pr_acceptLetter 12 = .ok (.iload_n 1, 1) := by decide +kernel
theorem d_Pr_acceptLetter_13 : decode c_Pr_acceptLetter 13 = .ok (.invokevirtual 80, 3) := by decide +kernel
theorem d_Pr_acceptLetter_16 : decode c_Pr_acceptLetter 16 = .ok (.istore_n 3, 1) := by decide +kernel
theorem d_Pr_acceptLetter_17 : decode c_Pr_acceptLetter 17 = .ok (.aload_n 0, 1) := by decide +kernel
theorem d_Pr_acceptLetter_18 : decode c_Pr_acceptLetter 18 = .ok (.iload_n 3, 1) := by decide +kernel
theorem d_Pr_acceptLetter_19 : decode c_Pr_acceptLetter 19 = .ok (.iload_n 3, 1) := by decide +kernel
theorem d_Pr_acceptLetter_20 : decode c_Pr_acceptLetter 20 = .ok (.iconst 0, 1) := by decide +kernel
theorem d_Pr_acceptLetter_21 : decode c_Pr_acceptLetter 21 = .ok (.invokevirtual 62, 3) := by decide +kernel
theorem d_Pr_acceptLetter_24 : decode c_Pr_acceptLetter 24 = .ok (.iconst 1, 1) := by decide +kernel
theorem d_Pr_acceptLetter_25 : decode c_Pr_acceptLetter 25 = .ok (.ireturn, 1) := by decide +kernel
theorem d_Ex_addLetter_0 : decode c_Ex_addLetter 0 = .ok (.iconst 1, 1) := by decide +kernel
theorem d_Ex_addLetter_1 : decode c_Ex_addLetter 1 = .ok (.aload_n 0, 1) := by decide +kernel
theorem d_Ex_addLetter_2 : decode c_Ex_addLetter 2 = .ok (.getfield 22, 3) := by decide +kernel
theorem d_Ex_addLetter_5 : decode c_Ex_addLetter 5 = .ok (.ishl, 1) := by decide +kernel
theorem d_Ex_addLetter_6 : decode c_Ex_addLetter 6 = .ok (.istore_n 2, 1) := by decide +kernel
theorem d_Ex_addLetter_7 : decode c_Ex_addLetter 7 = .ok (.aload_n 0, 1) := by decide +kernel
theorem d_Ex_addLetter_8 : decode c_Ex_addLetter 8 = .ok (.getfield 15, 3) := by decide +kernel
theorem d_Ex_addLetter_11 : decode c_Ex_addLetter 11 = .ok (.iload_n 1, 1) := by decide +kernel
theorem d_Ex_addLetter_12 : decode c_Ex_addLetter 12 = .ok (.dup2, 1) := by decide +kernel
theorem d_Ex_addLetter_13 : decode c_Ex_addLetter 13 = .ok (.iaload, 1) := by decide +kernel
theorem d_Ex_addLetter_14 : decode c_Ex_addLetter 14 = .ok (.iload_n 2, 1) := by decide +kernel
theorem d_Ex_addLetter_15 : decode c_Ex_addLetter 15 = .ok (.ior, 1) := by decide +kernel
theorem d_Ex_addLetter_16 : decode c_Ex_addLetter 16 = .ok (.iastore, 1) := by decide +kernel
theorem d_Ex_addLetter_17 : decode c_Ex_addLetter 17 = .ok (.aload_n 0, 1) := by decide +kernel
theorem d_Ex_addLetter_18 : decode c_Ex_addLetter 18 = .ok (.dup, 1) := by decide +kernel
theorem d_Ex_addLetter_19 : decode c_Ex_addLetter 19 = .ok (.getfield 22, 3) := by decide +kernel
theorem d_Ex_addLetter_22 : decode c_Ex_addLetter 22 = .ok (.iconst 1, 1) := by decide +kernel
theorem d_Ex_addLetter_23 : decode c_Ex_addLetter 23 = .ok (.iadd, 1) := by decide +kernel
theorem d_Ex_addLetter_24 : decode c_Ex_addLetter 24 = .ok (.putfield 22, 3) := by decide +kernel
theorem d_Ex_addLetter_27 : decode c_Ex_addLetter 27 = .ok (.iload_n 2, 1) := by decide +kernel
theorem d_Ex_addLetter_28 : decode c_Ex_addLetter 28 = .ok (.ireturn, 1) := by decide +kernel
theorem d_Pr_setFactor_0 : decode c_Pr_setFactor 0 = .ok (.aload_n 0, 1) := by decide +kernel
theorem d_Pr_setFactor_1 : decode c_Pr_setFactor 1 = .ok (.getfield 21, 3) := by decide +kernel
theorem d_Pr_setFactor_4 : decode c_Pr_setFactor 4 = .ok (.iload_n 1, 1) := by decide +kernel
theorem d_Pr_setFactor_5 : decode c_Pr_setFactor 5 = .ok (.iload_n 2, 1) := by decide +kernel
theorem d_Pr_setFactor_6 : decode c_Pr_setFactor 6 = .ok (.iload_n 3, 1) := by decide +kernel
theorem d_Pr_setFactor_7 : decode c_Pr_setFactor 7 = .ok (.invokevirtual 93, 3) := by decide +kernel
theorem d_Pr_setFactor_10 : decode c_Pr_setFactor 10 = .ok (.aload_n 0, 1) := by decide +kernel
theorem d_Pr_setFactor_11 : decode c_Pr_setFactor 11 = .ok (.iconst 1, 1) := by decide +kernel
theorem d_Pr_setFactor_12 : decode c_Pr_setFactor 12 = .ok (.putfield 25, 3) := by decide +kernel
theorem d_Pr_setFactor_15 : decode c_Pr_setFactor 15 = .ok (.return_, 1) := by decide +kernel
theorem d_Pr_acceptOpening_0 : decode c_Pr_acceptOpening 0 = .ok (.aload_n 0, 1) := by decide +kernel
theorem d_Pr_acceptOpening_1 : decode c_Pr_acceptOpening 1 = .ok (.getfield 29, 3) := by decide +kernel
theorem d_Pr_acceptOpening_4 : decode c_Pr_acceptOpening 4 = .ok (.bipush 8, 2) := by decide +kernel
theorem d_Pr_acceptOpening_6 : decode c_Pr_acceptOpening 6 = .ok (.if_icmp .lt 5, 3) := by decide +kernel
theorem d_Pr_acceptOpening_9 : decode c_Pr_acceptOpening 9 = .ok (.iconst 0, 1) := by decide +kernel
theorem d_Pr_acceptOpening_10 : decode c_Pr_acceptOpening 10 = .ok (.ireturn, 1) := by decide +kernel
theorem d_Pr_acceptOpening_11 : decode c_Pr_acceptOpening 11 = .ok (.aload_n 0, 1) := by decide +kernel
theorem d_Pr_acceptOpening_12 : decode c_Pr_acceptOpening 12 = .ok (.dup, 1) := by decide +kernel
theorem d_Pr_acceptOpening_13 : decode c_Pr_acceptOpening 13 = .ok (.getfield 29, 3) := by decide +kernel
theorem d_Pr_acceptOpening_16 : decode c_Pr_acceptOpening 16 = .ok (.iconst 1, 1) := by decide +kernel
theorem d_Pr_acceptOpening_17 : decode c_Pr_acceptOpening 17 = .ok (.iadd, 1) := by decide +kernel
theorem d_Pr_acceptOpening_18 : decode c_Pr_acceptOpening 18 = .ok (.putfield 29, 3) := by decide +kernel
theorem d_Pr_acceptOpening_21 : decode c_Pr_acceptOpening 21 = .ok (.aload_n 0, 1) := by decide +kernel
theorem d_Pr_acceptOpening_22 : decode c_Pr_acceptOpening 22 = .ok (.invokevirtual 38, 3) := by decide +kernel
theorem d_Pr_acceptOpening_25 : decode c_Pr_acceptOpening 25 = .ok (.iconst 1, 1) := by decide +kernel
theorem d_Pr_acceptOpening_26 : decode c_Pr_acceptOpening 26 = .ok (.ireturn, 1) := by decide +kernel
theorem d_Pr_acceptClosing_0 : decode c_Pr_acceptClosing 0 = .ok (.aload_n 0, 1) := by decide +kernel
theorem d_Pr_acceptClosing_1 : decode c_Pr_acceptClosing 1 = .ok (.getfield 29, 3) := by decide +kernel
theorem d_Pr_acceptClosing_4 : decode c_Pr_acceptClosing 4 = .ok (.ifCond .gt 5, 3) := by decide +kernel
theorem d_Pr_acceptClosing_7 : decode c_Pr_acceptClosing 7 = .ok (.iconst 0, 1) := by decide +kernel
theorem d_Pr_acceptClosing_8 : decode c_Pr_acceptClosing 8 = .ok (.ireturn, 1) := by decide +kernel
theorem d_Pr_acceptClosing_9 : decode c_Pr_acceptClosing 9 = .ok (.aload_n 0, 1) := by decide +kernel
theorem d_Pr_acceptClosing_10 : decode c_Pr_acceptClosing 10 = .ok (.invokevirtual 49, 3) := by decide +kernel
theorem d_Pr_acceptClosing_13 : decode c_Pr_acceptClosing 13 = .ok (.aload_n 0, 1) := by decide +kernel
theorem d_Pr_acceptClosing_14 : decode c_Pr_acceptClosing 14 = .ok (.getfield 11, 3) := by decide +kernel
theorem d_Pr_acceptClosing_17 : decode c_Pr_acceptClosing 17 = .ok (.aload_n 0, 1) := by decide +kernel
theorem d_Pr_acceptClosing_18 : decode c_Pr_acceptClosing 18 = .ok (.getfield 29, 3) := by decide +kernel
theorem d_Pr_acceptClosing_21 : decode c_Pr_acceptClosing 21 = .ok (.aaload, 1) := by decide +kernel
theorem d_Pr_acceptClosing_22 : decode c_Pr_acceptClosing 22 = .ok (.astore_n 1, 1) := by decide +kernel
theorem d_Pr_acceptClosing_23 : decode c_Pr_acceptClosing 23 = .ok (.aload_n 0, 1) := by decide +kernel
theorem d_Pr_acceptClosing_24 : decode c_Pr_acceptClosing 24 = .ok (.dup, 1) := by decide +kernel
theorem d_Pr_acceptClosing_25 : decode c_Pr_acceptClosing 25 = .ok (.getfield 29, 3) := by decide +kernel
theorem d_Pr_acceptClosing_28 : decode c_Pr_acceptClosing 28 = .ok (.iconst 1, 1) := by decide +kernel
theorem d_Pr_acceptClosing_29 : decode c_Pr_acceptClosing 29 = .ok (.isub, 1) := by decide +kernel
theorem d_Pr_acceptClosing_30 : decode c_Pr_acceptClosing 30 = .ok (.putfield 29, 3) := by decide +kernel
theorem d_Pr_acceptClosing_33 : decode c_Pr_acceptClosing 33 = .ok (.aload_n 0, 1) := by decide +kernel
theorem d_Pr_acceptClosing_34 : decode c_Pr_acceptClosing 34 = .ok (.aload_n 1, 1) := by decide +kernel
theorem d_Pr_acceptClosing_35 : decode c_Pr_acceptClosing 35 = .ok (.getfield 84, 3) := by decide +kernel
theorem d_Pr_acceptClosing_38 : decode c_Pr_acceptClosing 38 = .ok (.aload_n 1, 1) := by decide +kernel
theorem d_Pr_acceptClosing_39 : decode c_Pr_acceptClosing 39 = .ok (.getfield 87, 3) := by decide +kernel
theorem d_Pr_acceptClosing_42 : decode c_Pr_acceptClosing 42 = .ok (.aload_n 1, 1) := by decide +kernel
theorem d_Pr_acceptClosing_43 : decode c_Pr_acceptClosing 43 = .ok (.getfield 90, 3) := by decide +kernel
theorem d_Pr_acceptClosing_46 : decode c_Pr_acceptClosing 46 = .ok (.invokevirtual 62, 3) := by decide +kernel
theorem d_Pr_acceptClosing_49 : decode c_Pr_acceptClosing 49 = .ok (.iconst 1, 1) := by decide +kernel
theorem d_Pr_acceptClosing_50 : decode c_Pr_acceptClosing 50 = .ok (.ireturn, 1) := by decide +kernel
theorem d_Pr_endRow_0 : decode c_Pr_endRow 0 = .ok (.aload_n 0, 1) := by decide +kernel
theorem d_Pr_endRow_1 : decode c_Pr_endRow 1 = .ok (.getfield 11, 3) := by decide +kernel
theorem d_Pr_endRow_4 : decode c_Pr_endRow 4 = .ok (.aload_n 0, 1) := by decide +kernel
theorem d_Pr_endRow_5 : decode c_Pr_endRow 5 = .ok (.getfield 29, 3) := by decide +kernel
theorem d_Pr_endRow_8 : decode c_Pr_endRow 8 = .ok (.aaload, 1) := by decide +kernel
theorem d_Pr_endRow_9 : decode c_Pr_endRow 9 = .ok (.aload_n 0, 1) := by decide +kernel
theorem d_Pr_endRow_10 : decode c_Pr_endRow 10 = .ok (.getfield 17, 3) := by decide +kernel
theorem d_Pr_endRow_13 : decode c_Pr_endRow 13 = .ok (.aload_n 0, 1) := by decide +kernel
theorem d_Pr_endRow_14 : decode c_Pr_endRow 14 = .ok (.getfield 29, 3) := by decide +kernel
theorem d_Pr_endRow_17 : decode c_Pr_endRow 17 = .ok (.aaload, 1) := by decide +kernel
theorem d_Pr_endRow_18 : decode c_Pr_endRow 18 = .ok (.invokevirtual 100, 3) := by decide +kernel
theorem d_Pr_endRow_21 : decode c_Pr_endRow 21 = .ok (.aload_n 0, 1) := by decide +kernel
theorem d_Pr_endRow_22 : decode c_Pr_endRow 22 = .ok (.getfield 17, 3) := by decide +kernel
theorem d_Pr_endRow_25 : decode c_Pr_endRow 25 = .ok (.aload_n 0, 1) := by decide +kernel
theorem d_Pr_endRow_26 : decode c_Pr_endRow 26 = .ok (.getfield 29, 3) := by decide +kernel
theorem d_Pr_endRow_29 : decode c_Pr_endRow 29 = .ok (.aaload, 1) := by decide +kernel
theorem d_Pr_endRow_30 : decode c_Pr_endRow 30 = .ok (.iconst 0, 1) := by decide +kernel
theorem d_Pr_endRow_31 : decode c_Pr_endRow 31 = .ok (.iconst 0, 1) := by decide +kernel
theorem d_Pr_endRow_32 : decode c_Pr_endRow 32 = .ok (.iconst 1, 1) := by decide +kernel
theorem d_Pr_endRow_33 : decode c_Pr_endRow 33 = .ok (.invokevirtual 93, 3) := by decide +kernel
theorem d_Pr_endRow_36 : decode c_Pr_endRow 36 = .ok (.return_, 1) := by decide +kernel
theorem d_Pt_addAlternative_0 : decode c_Pt_addAlternative 0 = .ok (.aload_n 0, 1) := by decide +kernel
theorem d_Pt_addAlternative_1 : decode c_Pt_addAlternative 1 = .ok (.aload_n 0, 1) := by decide +kernel
theorem d_Pt_addAlternative_2 : decode c_Pt_addAlternative 2 = .ok (.getfield 7, 3) := by decide +kernel
theorem d_Pt_addAlternative_5 : decode c_Pt_addAlternative 5 = .ok (.aload_n 1, 1) := by decide +kernel
theorem d_Pt_addAlternative_6 : decode c_Pt_addAlternative 6 = .ok (.getfield 7, 3) := by decide +kernel
theorem d_Pt_addAlternative_9 : decode c_Pt_addAlternative 9 = .ok (.ior, 1) := by decide +kernel
theorem d_Pt_addAlternative_10 : decode c_Pt_addAlternative 10 = .ok (.aload_n 0, 1) := by decide +kernel
theorem d_Pt_addAlternative_11 : decode c_Pt_addAlternative 11 = .ok (.getfield 13, 3) := by decide +kernel
theorem d_Pt_addAlternative_14 : decode c_Pt_addAlternative 14 = .ok (.aload_n 1, 1) := by decide +kernel
theorem d_Pt_addAlternative_15 : decode c_Pt_addAlternative 15 = .ok (.getfield 13, 3) := by decide +kernel
theorem d_Pt_addAlternative_18 : decode c_Pt_addAlternative 18 = .ok (.ior, 1) := by decide +kernel
theorem d_Pt_addAlternative_19 : decode c_Pt_addAlternative 19 = .ok (.aload_n 0, 1) := by decide +kernel
theorem d_Pt_addAlternative_20 : decode c_Pt_addAlternative 20 = .ok (.getfield 16, 3) := by decide +kernel
theorem d_Pt_addAlternative_23 : decode c_Pt_addAlternative 23 = .ok (.ifCond .ne 10, 3) := by decide +kernel
theorem d_Pt_addAlternative_26 : decode c_Pt_addAlternative 26 = .ok (.aload_n 1, 1) := by decide +kernel
theorem d_Pt_addAlternative_27 : decode c_Pt_addAlternative 27 = .ok (.getfield 16, 3) := by decide +kernel
theorem d_Pt_addAlternative_30 : decode c_Pt_addAlternative 30 = .ok (.ifCond .eq 7, 3) := by decide +kernel
theorem d_Pt_addAlternative_33 : decode c_Pt_addAlternative 33 = .ok (.iconst 1, 1) := by decide +kernel
theorem d_Pt_addAlternative_34 : decode c_Pt_addAlternative 34 = .ok (.goto 4, 3) := by decide +kernel
theorem d_Pt_addAlternative_37 : decode c_Pt_addAlternative 37 = .ok (.iconst 0, 1) := by decide +kernel
theorem d_Pt_addAlternative_38 : decode c_Pt_addAlternative 38 = .ok (.invokevirtual 20, 3) := by decide +kernel
theorem d_Pt_addAlternative_41 : decode c_Pt_addAlternative 41 = .ok (.return_, 1) := by decide +kernel
theorem d_Ex_setWhole_0 : decode c_Ex_setWhole 0 = .ok (.aload_n 0, 1) := by decide +kernel
theorem d_Ex_setWhole_1 : decode c_Ex_setWhole 1 = .ok (.getfield 11, 3) := by decide +kernel
theorem d_Ex_setWhole_4 : decode c_Ex_setWhole 4 = .ok (.bipush 8, 2) := by decide +kernel
theorem d_Ex_setWhole_6 : decode c_Ex_setWhole 6 = .ok (.aload_n 1, 1) := by decide +kernel
theorem d_Ex_setWhole_7 : decode c_Ex_setWhole 7 = .ok (.getfield 31, 3) := by decide +kernel
theorem d_Ex_setWhole_10 : decode c_Ex_setWhole 10 = .ok (.iastore, 1) := by decide +kernel
theorem d_Ex_setWhole_11 : decode c_Ex_setWhole 11 = .ok (.aload_n 0, 1) := by decide +kernel
theorem d_Ex_setWhole_12 : decode c_Ex_setWhole 12 = .ok (.aload_n 1, 1) := by decide +kernel
theorem d_Ex_setWhole_13 : decode c_Ex_setWhole 13 = .ok (.getfield 36, 3) := by decide +kernel
theorem d_Ex_setWhole_16 : decode c_Ex_setWhole 16 = .ok (.ifCond .eq 14, 3) := by decide +kernel
theorem d_Ex_setWhole_19 : decode c_Ex_setWhole 19 = .ok (.aload_n 1, 1) := by decide +kernel
theorem d_Ex_setWhole_20 : decode c_Ex_setWhole 20 = .ok (.getfield 40, 3) := by decide +kernel
theorem d_Ex_setWhole_23 : decode c_Ex_setWhole 23 = .ok (.sipush 256, 3) := by decide +kernel
theorem d_Ex_setWhole_26 : decode c_Ex_setWhole 26 = .ok (.ior, 1) := by decide +kernel
theorem d_Ex_setWhole_27 : decode c_Ex_setWhole 27 = .ok (.goto 7, 3) := by decide +kernel
theorem d_Ex_setWhole_30 : decode c_Ex_setWhole 30 = .ok (.aload_n 1, 1) := by decide +kernel
theorem d_Ex_setWhole_31 : decode c_Ex_setWhole 31 = .ok (.getfield 40, 3) := by decide +kernel
theorem d_Ex_setWhole_34 : decode c_Ex_setWhole 34 = .ok (.putfield 18, 3) := by decide +kernel
theorem d_Ex_setWhole_37 : decode c_Ex_setWhole 37 = .ok (.return_, 1) := by decide +kernel
theorem d_Ws_putSpare_0 : decode c_Ws_putSpare 0 = .ok (.aload_n 0, 1) := by decide +kernel
theorem d_Ws_putSpare_1 : decode c_Ws_putSpare 1 = .ok (.getfield 18, 3) := by decide +kernel
theorem d_Ws_putSpare_4 : decode c_Ws_putSpare 4 = .ok (.iload_n 1, 1) := by decide +kernel
theorem d_Ws_putSpare_5 : decode c_Ws_putSpare 5 = .ok (.aaload, 1) := by decide +kernel
theorem d_Ws_putSpare_6 : decode c_Ws_putSpare 6 = .ok (.astore_n 2, 1) := by decide +kernel
theorem d_Ws_putSpare_7 : decode c_Ws_putSpare 7 = .ok (.aload_n 0, 1) := by decide +kernel
theorem d_Ws_putSpare_8 : decode c_Ws_putSpare 8 = .ok (.getfield 18, 3) := by decide +kernel
theorem d_Ws_putSpare_11 : decode c_Ws_putSpare 11 = .ok (.iload_n 1, 1) := by decide +kernel
theorem d_Ws_putSpare_12 : decode c_Ws_putSpare 12 = .ok (.aload_n 0, 1) := by decide +kernel
theorem d_Ws_putSpare_13 : decode c_Ws_putSpare 13 = .ok (.getfield 55, 3) := by decide +kernel
theorem d_Ws_putSpare_16 : decode c_Ws_putSpare 16 = .ok (.aastore, 1) := by decide +kernel
theorem d_Ws_putSpare_17 : decode c_Ws_putSpare 17 = .ok (.aload_n 0, 1) := by decide +kernel
theorem d_Ws_putSpare_18 : decode c_Ws_putSpare 18 = .ok (.aload_n 2, 1) := by decide +kernel
theorem d_Ws_putSpare_19 : decode c_Ws_putSpare 19 = .ok (.putfield 55, 3) := by decide +kernel
theorem d_Ws_putSpare_22 : decode c_Ws_putSpare 22 = .ok (.return_, 1) := by decide +kernel
theorem d_Ws_has_0 : decode c_Ws_has 0 = .ok (.aload_n 0, 1) := by decide +kernel
theorem d_Ws_has_1 : decode c_Ws_has 1 = .ok (.getfield 10, 3) := by decide +kernel
theorem d_Ws_has_4 : decode c_Ws_has 4 = .ok (.invokevirtual 81, 3) := by decide +kernel
theorem d_Ws_has_7 : decode c_Ws_has 7 = .ok (.istore_n 2, 1) := by decide +kernel
theorem d_Ws_has_8 : decode c_Ws_has 8 = .ok (.iload_n 1, 1) := by decide +kernel
theorem d_Ws_has_9 : decode c_Ws_has 9 = .ok (.invokestatic 85, 3) := by decide +kernel
theorem d_Ws_has_12 : decode c_Ws_has 12 = .ok (.aload_n 0, 1) := by decide +kernel
theorem d_Ws_has_13 : decode c_Ws_has 13 = .ok (.getfield 10, 3) := by decide +kernel
theorem d_Ws_has_16 : decode c_Ws_has 16 = .ok (.iload_n 2, 1) := by decide +kernel
theorem d_Ws_has_17 : decode c_Ws_has 17 = .ok (.invokevirtual 105, 3) := by decide +kernel
theorem d_Ws_has_20 : decode c_Ws_has 20 = .ok (.ifCond .ne 13, 3) := by decide +kernel
theorem d_Ws_has_23 : decode c_Ws_has 23 = .ok (.new 62, 3) := by decide +kernel
theorem d_Ws_has_26 : decode c_Ws_has 26 = .ok (.dup, 1) := by decide +kernel
theorem d_Ws_has_27 : decode c_Ws_has 27 = .ok (.ldc 109, 2) := by decide +kernel
theorem d_Ws_has_29 : decode c_Ws_has 29 = .ok (.invokespecial 66, 3) := by decide +kernel
theorem d_Ws_has_32 : decode c_Ws_has 32 = .ok (.athrow, 1) := by decide +kernel
theorem d_Ws_has_33 : decode c_Ws_has 33 = .ok (.aload_n 0, 1) := by decide +kernel
theorem d_Ws_has_34 : decode c_Ws_has 34 = .ok (.getfield 18, 3) := by decide +kernel
theorem d_Ws_has_37 : decode c_Ws_has 37 = .ok (.iload_n 1, 1) := by decide +kernel
theorem d_Ws_has_38 : decode c_Ws_has 38 = .ok (.aaload, 1) := by decide +kernel
theorem d_Ws_has_39 : decode c_Ws_has 39 = .ok (.astore_n 3, 1) := by decide +kernel
theorem d_Ws_has_40 : decode c_Ws_has 40 = .ok (.sipush 256, 3) := by decide +kernel
theorem d_Ws_has_43 : decode c_Ws_has 43 = .ok (.istore 4, 2) := by decide +kernel
theorem d_Ws_has_45 : decode c_Ws_has 45 = .ok (.iconst 0, 1) := by decide +kernel
theorem d_Ws_has_46 : decode c_Ws_has 46 = .ok (.istore 5, 2) := by decide +kernel
theorem d_Ws_has_48 : decode c_Ws_has 48 = .ok (.iload 5, 2) := by decide +kernel
theorem d_Ws_has_50 : decode c_Ws_has 50 = .ok (.iload_n 2, 1) := by decide +kernel
theorem d_Ws_has_51 : decode c_Ws_has 51 = .ok (.if_icmp .ge 30, 3) := by decide +kernel
theorem d_Ws_has_54 : decode c_Ws_has 54 = .ok (.aload_n 3, 1) := by decide +kernel
theorem d_Ws_has_55 : decode c_Ws_has 55 = .ok (.iload 4, 2) := by decide +kernel
theorem d_Ws_has_57 : decode c_Ws_has 57 = .ok (.aload_n 0, 1) := by decide +kernel
theorem d_Ws_has_58 : decode c_Ws_has 58 = .ok (.getfield 10, 3) := by decide +kernel
theorem d_Ws_has_61 : decode c_Ws_has 61 = .ok (.getfield 89, 3) := by decide +kernel
theorem d_Ws_has_64 : decode c_Ws_has 64 = .ok (.iload 5, 2) := by decide +kernel
theorem d_Ws_has_66 : decode c_Ws_has 66 = .ok (.iaload, 1) := by decide +kernel
theorem d_Ws_has_67 : decode c_Ws_has 67 = .ok (.bipush 97, 2) := by decide +kernel
theorem d_Ws_has_69 : decode c_Ws_has 69 = .ok (.isub, 1) := by decide +kernel
theorem d_Ws_has_70 : decode c_Ws_has 70 = .ok (.invokevirtual 111, 3) := by decide +kernel
theorem d_Ws_has_73 : decode c_Ws_has 73 = .ok (.istore 4, 2) := by decide +kernel
theorem d_Ws_has_75 : decode c_Ws_has 75 = .ok (.iinc 5 1, 3) := by decide +kernel
theorem d_Ws_has_78 : decode c_Ws_has 78 = .ok (.goto (-30), 3) := by decide +kernel
theorem d_Ws_has_81 : decode c_Ws_has 81 = .ok (.aload_n 3, 1) := by decide +kernel
theorem d_Ws_has_82 : decode c_Ws_has 82 = .ok (.iload 4, 2) := by decide +kernel
theorem d_Ws_has_84 : decode c_Ws_has 84 = .ok (.invokevirtual 115, 3) := by decide +kernel
theorem d_Ws_has_87 : decode c_Ws_has 87 = .ok (.ireturn, 1) := by decide +kernel
theorem d_Ta_isWord_0 : decode c_Ta_isWord 0 = .ok (.iconst 0, 1) := by decide +kernel
theorem d_Ta_isWord_1 : decode c_Ta_isWord 1 = .ok (.istore_n 2, 1) := by decide +kernel
theorem d_Ta_isWord_2 : decode c_Ta_isWord 2 = .ok (.iload_n 2, 1) := by decide +kernel
theorem d_Ta_isWord_3 : decode c_Ta_isWord 3 = .ok (.iload_n 1, 1) := by decide +kernel
theorem d_Ta_isWord_4 : decode c_Ta_isWord 4 = .ok (.if_icmp .ge 33, 3) := by decide +kernel
theorem d_Ta_isWord_7 : decode c_Ta_isWord 7 = .ok (.aload_n 0, 1) := by decide +kernel
theorem d_Ta_isWord_8 : decode c_Ta_isWord 8 = .ok (.getfield 9, 3) := by decide +kernel
theorem d_Ta_isWord_11 : decode c_Ta_isWord 11 = .ok (.iload_n 2, 1) := by decide +kernel
theorem d_Ta_isWord_12 : decode c_Ta_isWord 12 = .ok (.iaload, 1) := by decide +kernel
theorem d_Ta_isWord_13 : decode c_Ta_isWord 13 = .ok (.bipush 97, 2) := by decide +kernel
theorem d_Ta_isWord_15 : decode c_Ta_isWord 15 = .ok (.if_icmp .lt 14, 3) := by decide +kernel
theorem d_Ta_isWord_18 : decode c_Ta_isWord 18 = .ok (.aload_n 0, 1) := by decide +kernel
theorem d_Ta_isWord_19 : decode c_Ta_isWord 19 = .ok (.getfield 9, 3) := by decide +kernel
theorem d_Ta_isWord_22 : decode c_Ta_isWord 22 = .ok (.iload_n 2, 1) := by decide +kernel
theorem d_Ta_isWord_23 : decode c_Ta_isWord 23 = .ok (.iaload, 1) := by decide +kernel
theorem d_Ta_isWord_24 : decode c_Ta_isWord 24 = .ok (.bipush 100, 2) := by decide +kernel
theorem d_Ta_isWord_26 : decode c_Ta_isWord 26 = .ok (.if_icmp .le 5, 3) := by decide +kernel
theorem d_Ta_isWord_29 : decode c_Ta_isWord 29 = .ok (.iconst 0, 1) := by decide +kernel
theorem d_Ta_isWord_30 : decode c_Ta_isWord 30 = .ok (.ireturn, 1) := by decide +kernel
theorem d_Ta_isWord_31 : decode c_Ta_isWord 31 = .ok (.iinc 2 1, 3) := by decide +kernel
theorem d_Ta_isWord_34 : decode c_Ta_isWord 34 = .ok (.goto (-32), 3) := by decide +kernel
theorem d_Ta_isWord_37 : decode c_Ta_isWord 37 = .ok (.iconst 1, 1) := by decide +kernel
theorem d_Ta_isWord_38 : decode c_Ta_isWord 38 = .ok (.ireturn, 1) := by decide +kernel
theorem d_Ex_step_0 : decode c_Ex_step 0 = .ok (.aload_n 0, 1) := by decide +kernel
theorem d_Ex_step_1 : decode c_Ex_step 1 = .ok (.iload_n 1, 1) := by decide +kernel
theorem d_Ex_step_2 : decode c_Ex_step 2 = .ok (.invokevirtual 43, 3) := by decide +kernel
theorem d_Ex_step_5 : decode c_Ex_step 5 = .ok (.aload_n 0, 1) := by decide +kernel
theorem d_Ex_step_6 : decode c_Ex_step 6 = .ok (.getfield 15, 3) := by decide +kernel
theorem d_Ex_step_9 : decode c_Ex_step 9 = .ok (.iload_n 2, 1) := by decide +kernel
theorem d_Ex_step_10 : decode c_Ex_step 10 = .ok (.iaload, 1) := by decide +kernel
theorem d_Ex_step_11 : decode c_Ex_step 11 = .ok (.iand, 1) := by decide +kernel
theorem d_Ex_step_12 : decode c_Ex_step 12 = .ok (.ireturn, 1) := by decide +kernel
theorem d_Ex_onward_0 : decode c_Ex_onward 0 = .ok (.iconst 0, 1) := by decide +kernel
theorem d_Ex_onward_1 : decode c_Ex_onward 1 = .ok (.istore_n 2, 1) := by decide +kernel
theorem d_Ex_onward_2 : decode c_Ex_onward 2 = .ok (.iconst 0, 1) := by decide +kernel
theorem d_Ex_onward_3 : decode c_Ex_onward 3 = .ok (.istore_n 3, 1) := by decide +kernel
theorem d_Ex_onward_4 : decode c_Ex_onward 4 = .ok (.iload_n 3, 1) := by decide +kernel
theorem d_Ex_onward_5 : decode c_Ex_onward 5 = .ok (.bipush 8, 2) := by decide +kernel
theorem d_Ex_onward_7 : decode c_Ex_onward 7 = .ok (.if_icmp .gt 26, 3) := by decide +kernel
theorem d_Ex_onward_10 : decode c_Ex_onward 10 = .ok (.iload_n 1, 1) := by decide +kernel
theorem d_Ex_onward_11 : decode c_Ex_onward 11 = .ok (.iload_n 3, 1) := by decide +kernel
theorem d_Ex_onward_12 : decode c_Ex_onward 12 = .ok (.ishr, 1) := by decide +kernel
theorem d_Ex_onward_13 : decode c_Ex_onward 13 = .ok (.iconst 1, 1) := by decide +kernel
theorem d_Ex_onward_14 : decode c_Ex_onward 14 = .ok (.iand, 1) := by decide +kernel
theorem d_Ex_onward_15 : decode c_Ex_onward 15 = .ok (.ifCond .eq 12, 3) := by decide +kernel
theorem d_Ex_onward_18 : decode c_Ex_onward 18 = .ok (.iload_n 2, 1) := by decide +kernel
theorem d_Ex_onward_19 : decode c_Ex_onward 19 = .ok (.aload_n 0, 1) := by decide +kernel
theorem d_Ex_onward_20 : decode c_Ex_onward 20 = .ok (.getfield 11, 3) := by decide +kernel
theorem d_Ex_onward_23 : decode c_Ex_onward 23 = .ok (.iload_n 3, 1) := by decide +kernel
theorem d_Ex_onward_24 : decode c_Ex_onward 24 = .ok (.iaload, 1) := by decide +kernel
theorem d_Ex_onward_25 : decode c_Ex_onward 25 = .ok (.ior, 1) := by decide +kernel
theorem d_Ex_onward_26 : decode c_Ex_onward 26 = .ok (.istore_n 2, 1) := by decide +kernel
theorem d_Ex_onward_27 : decode c_Ex_onward 27 = .ok (.iinc 3 1, 3) := by decide +kernel
theorem d_Ex_onward_30 : decode c_Ex_onward 30 = .ok (.goto (-26), 3) := by decide +kernel
theorem d_Ex_onward_33 : decode c_Ex_onward 33 = .ok (.iload_n 2, 1) := by decide +kernel
theorem d_Ex_onward_34 : decode c_Ex_onward 34 = .ok (.ireturn, 1) := by decide +kernel
theorem d_Ex_accepts_0 : decode c_Ex_accepts 0 = .ok (.iload_n 1, 1) := by decide +kernel
theorem d_Ex_accepts_1 : decode c_Ex_accepts 1 = .ok (.aload_n 0, 1) := by decide +kernel
theorem d_Ex_accepts_2 : decode c_Ex_accepts 2 = .ok (.getfield 18, 3) := by decide +kernel
theorem d_Ex_accepts_5 : decode c_Ex_accepts 5 = .ok (.iand, 1) := by decide +kernel
theorem d_Ex_accepts_6 : decode c_Ex_accepts 6 = .ok (.ifCond .eq 7, 3) := by decide +kernel
theorem d_Ex_accepts_9 : decode c_Ex_accepts 9 = .ok (.iconst 1, 1) := by decide +kernel
theorem d_Ex_accepts_10 : decode c_Ex_accepts 10 = .ok (.goto 4, 3) := by decide +kernel
theorem d_Ex_accepts_13 : decode c_Ex_accepts 13 = .ok (.iconst 0, 1) := by decide +kernel
theorem d_Ex_accepts_14 : decode c_Ex_accepts 14 = .ok (.ireturn, 1) := by decide +kernel
theorem d_Ws_compare_0 : decode c_Ws_compare 0 = .ok (.iload_n 1, 1) := by decide +kernel
theorem d_Ws_compare_1 : decode c_Ws_compare 1 = .ok (.invokestatic 85, 3) := by decide +kernel
theorem d_Ws_compare_4 : decode c_Ws_compare 4 = .ok (.iload_n 2, 1) := by decide +kernel
theorem d_Ws_compare_5 : decode c_Ws_compare 5 = .ok (.invokestatic 85, 3) := by decide +kernel
theorem d_Ws_compare_8 : decode c_Ws_compare 8 = .ok (.aload_n 0, 1) := by decide +kernel
theorem d_Ws_compare_9 : decode c_Ws_compare 9 = .ok (.getfield 44, 3) := by decide +kernel
theorem d_Ws_compare_12 : decode c_Ws_compare 12 = .ok (.aload_n 0, 1) := by decide +kernel
theorem d_Ws_compare_13 : decode c_Ws_compare 13 = .ok (.getfield 18, 3) := by decide +kernel
theorem d_Ws_compare_16 : decode c_Ws_compare 16 = .ok (.iload_n 1, 1) := by decide +kernel
theorem d_Ws_compare_17 : decode c_Ws_compare 17 = .ok (.aaload, 1) := by decide +kernel
theorem d_Ws_compare_18 : decode c_Ws_compare 18 = .ok (.aload_n 0, 1) := by decide +kernel
theorem d_Ws_compare_19 : decode c_Ws_compare 19 = .ok (.getfield 18, 3) := by decide +kernel
theorem d_Ws_compare_22 : decode c_Ws_compare 22 = .ok (.iload_n 2, 1) := by decide +kernel
theorem d_Ws_compare_23 : decode c_Ws_compare 23 = .ok (.aaload, 1) := by decide +kernel
theorem d_Ws_compare_24 : decode c_Ws_compare 24 = .ok (.iconst 3, 1) := by decide +kernel
theorem d_Ws_compare_25 : decode c_Ws_compare 25 = .ok (.aload_n 0, 1) := by decide +kernel
theorem d_Ws_compare_26 : decode c_Ws_compare 26 = .ok (.getfield 51, 3) := by decide +kernel
theorem d_Ws_compare_29 : decode c_Ws_compare 29 = .ok (.invokevirtual 118, 3) := by decide +kernel
theorem d_Ws_compare_32 : decode c_Ws_compare 32 = .ok (.ireturn, 1) := by decide +kernel
theorem d_Se_part_0 : decode c_Se_part 0 = .ok (.aload_n 0, 1) := by decide +kernel
theorem d_Se_part_1 : decode c_Se_part 1 = .ok (.getfield 9, 3) := by decide +kernel
theorem d_Se_part_4 : decode c_Se_part 4 = .ok (.lconst 0, 1) := by decide +kernel
theorem d_Se_part_5 : decode c_Se_part 5 = .ok (.invokestatic 29, 3) := by decide +kernel
theorem d_Se_part_8 : decode c_Se_part 8 = .ok (.aload_n 0, 1) := by decide +kernel
theorem d_Se_part_9 : decode c_Se_part 9 = .ok (.iconst 0, 1) := by decide +kernel
theorem d_Se_part_10 : decode c_Se_part 10 = .ok (.putfield 25, 3) := by decide +kernel
theorem d_Se_part_13 : decode c_Se_part 13 = .ok (.aload_n 0, 1) := by decide +kernel
theorem d_Se_part_14 : decode c_Se_part 14 = .ok (.sipush 256, 3) := by decide +kernel
theorem d_Se_part_17 : decode c_Se_part 17 = .ok (.sipush 256, 3) := by decide +kernel
theorem d_Se_part_20 : decode c_Se_part 20 = .ok (.iconst 0, 1) := by decide +kernel
theorem d_Se_part_21 : decode c_Se_part 21 = .ok (.invokevirtual 37, 3) := by decide +kernel
theorem d_Se_part_24 : decode c_Se_part 24 = .ok (.iconst 0, 1) := by decide +kernel
theorem d_Se_part_25 : decode c_Se_part 25 = .ok (.istore 5, 2) := by decide +kernel
theorem d_Se_part_27 : decode c_Se_part 27 = .ok (.iload 5, 2) := by decide +kernel
theorem d_Se_part_29 : decode c_Se_part 29 = .ok (.aload_n 0, 1) := by decide +kernel
theorem d_Se_part_30 : decode c_Se_part 30 = .ok (.getfield 25, 3) := by decide +kernel
theorem d_Se_part_33 : decode c_Se_part 33 = .ok (.if_icmp .ge 69, 3) := by decide +kernel
theorem d_Se_part_36 : decode c_Se_part 36 = .ok (.iload 5, 2) := by decide +kernel
theorem d_Se_part_38 : decode c_Se_part 38 = .ok (.ldc 41, 2) := by decide +kernel
theorem d_Se_part_40 : decode c_Se_part 40 = .ok (.if_icmp .ge 62, 3) := by decide +kernel
theorem d_Se_part_43 : decode c_Se_part 43 = .ok (.aload_n 1, 1) := by decide +kernel
theorem d_Se_part_44 : decode c_Se_part 44 = .ok (.aload_n 0, 1) := by decide +kernel
theorem d_Se_part_45 : decode c_Se_part 45 = .ok (.getfield 15, 3) := by decide +kernel
theorem d_Se_part_48 : decode c_Se_part 48 = .ok (.iload 5, 2) := by decide +kernel
theorem d_Se_part_50 : decode c_Se_part 50 = .ok (.iaload, 1) := by decide +kernel
theorem d_Se_part_51 : decode c_Se_part 51 = .ok (.invokevirtual 42, 3) := by decide +kernel
theorem d_Se_part_54 : decode c_Se_part 54 = .ok (.aload_n 2, 1) := by decide +kernel
theorem d_Se_part_55 : decode c_Se_part 55 = .ok (.aload_n 0, 1) := by decide +kernel
theorem d_Se_part_56 : decode c_Se_part 56 = .ok (.getfield 19, 3) := by decide +kernel
theorem d_Se_part_59 : decode c_Se_part 59 = .ok (.iload 5, 2) := by decide +kernel
theorem d_Se_part_61 : decode c_Se_part 61 = .ok (.iaload, 1) := by decide +kernel
theorem d_Se_part_62 : decode c_Se_part 62 = .ok (.invokevirtual 42, 3) := by decide +kernel
theorem d_Se_part_65 : decode c_Se_part 65 = .ok (.invokestatic 46, 3) := by decide +kernel
theorem d_Se_part_68 : decode c_Se_part 68 = .ok (.iload_n 3, 1) := by decide +kernel
theorem d_Se_part_69 : decode c_Se_part 69 = .ok (.iand, 1) := by decide +kernel
theorem d_Se_part_70 : decode c_Se_part 70 = .ok (.istore 6, 2) := by decide +kernel
theorem d_Se_part_72 : decode c_Se_part 72 = .ok (.iload 6, 2) := by decide +kernel
theorem d_Se_part_74 : decode c_Se_part 74 = .ok (.ifCond .eq 14, 3) := by decide +kernel
theorem d_Se_part_77 : decode c_Se_part 77 = .ok (.aload_n 0, 1) := by decide +kernel
theorem d_Se_part_78 : decode c_Se_part 78 = .ok (.iload 5, 2) := by decide +kernel
theorem d_Se_part_80 : decode c_Se_part 80 = .ok (.aload 4, 2) := by decide +kernel
theorem d_Se_part_82 : decode c_Se_part 82 = .ok (.invokevirtual 50, 3) := by decide +kernel
theorem d_Se_part_85 : decode c_Se_part 85 = .ok (.iload 6, 2) := by decide +kernel
theorem d_Se_part_87 : decode c_Se_part 87 = .ok (.ireturn, 1) := by decide +kernel
theorem d_Se_part_88 : decode c_Se_part 88 = .ok (.aload_n 0, 1) := by decide +kernel
theorem d_Se_part_89 : decode c_Se_part 89 = .ok (.iload 5, 2) := by decide +kernel
theorem d_Se_part_91 : decode c_Se_part 91 = .ok (.aload_n 1, 1) := by decide +kernel
theorem d_Se_part_92 : decode c_Se_part 92 = .ok (.aload_n 2, 1) := by decide +kernel
theorem d_Se_part_93 : decode c_Se_part 93 = .ok (.invokevirtual 54, 3) := by decide +kernel
theorem d_Se_part_96 : decode c_Se_part 96 = .ok (.iinc 5 1, 3) := by decide +kernel
theorem d_Se_part_99 : decode c_Se_part 99 = .ok (.goto (-72), 3) := by decide +kernel
theorem d_Se_part_102 : decode c_Se_part 102 = .ok (.aload 4, 2) := by decide +kernel
theorem d_Se_part_104 : decode c_Se_part 104 = .ok (.iconst 0, 1) := by decide +kernel
theorem d_Se_part_105 : decode c_Se_part 105 = .ok (.invokevirtual 58, 3) := by decide +kernel
theorem d_Se_part_108 : decode c_Se_part 108 = .ok (.iconst 0, 1) := by decide +kernel
theorem d_Se_part_109 : decode c_Se_part 109 = .ok (.ireturn, 1) := by decide +kernel
theorem d_Se_append_0 : decode c_Se_append 0 = .ok (.aload_n 0, 1) := by decide +kernel
theorem d_Se_append_1 : decode c_Se_append 1 = .ok (.getfield 25, 3) := by decide +kernel
theorem d_Se_append_4 : decode c_Se_append 4 = .ok (.aload_n 0, 1) := by decide +kernel
theorem d_Se_append_5 : decode c_Se_append 5 = .ok (.getfield 15, 3) := by decide +kernel
theorem d_Se_append_8 : decode c_Se_append 8 = .ok (.arraylength, 1) := by decide +kernel
theorem d_Se_append_9 : decode c_Se_append 9 = .ok (.if_icmp .lt 54, 3) := by decide +kernel
theorem d_Se_append_12 : decode c_Se_append 12 = .ok (.aload_n 0, 1) := by decide +kernel
theorem d_Se_append_13 : decode c_Se_append 13 = .ok (.aload_n 0, 1) := by decide +kernel
theorem d_Se_append_14 : decode c_Se_append 14 = .ok (.getfield 15, 3) := by decide +kernel
theorem d_Se_append_17 : decode c_Se_append 17 = .ok (.iconst 2, 1) := by decide +kernel
theorem d_Se_append_18 : decode c_Se_append 18 = .ok (.aload_n 0, 1) := by decide +kernel
theorem d_Se_append_19 : decode c_Se_append 19 = .ok (.getfield 25, 3) := by decide +kernel
theorem d_Se_append_22 : decode c_Se_append 22 = .ok (.imul, 1) := by decide +kernel
theorem d_Se_append_23 : decode c_Se_append 23 = .ok (.invokestatic 75, 3) := by decide +kernel
theorem d_Se_append_26 : decode c_Se_append 26 = .ok (.putfield 15, 3) := by decide +kernel
theorem d_Se_append_29 : decode c_Se_append 29 = .ok (.aload_n 0, 1) := by decide +kernel
theorem d_Se_append_30 : decode c_Se_append 30 = .ok (.aload_n 0, 1) := by decide +kernel
theorem d_Se_append_31 : decode c_Se_append 31 = .ok (.getfield 19, 3) := by decide +kernel
theorem d_Se_append_34 : decode c_Se_append 34 = .ok (.iconst 2, 1) := by decide +kernel
theorem d_Se_append_35 : decode c_Se_append 35 = .ok (.aload_n 0, 1) := by decide +kernel
theorem d_Se_append_36 : decode c_Se_append 36 = .ok (.getfield 25, 3) := by decide +kernel
theorem d_Se_append_39 : decode c_Se_append 39 = .ok (.imul, 1) := by decide +kernel
theorem d_Se_append_40 : decode c_Se_append 40 = .ok (.invokestatic 75, 3) := by decide +kernel
theorem d_Se_append_43 : decode c_Se_append 43 = .ok (.putfield 19, 3) := by decide +kernel
theorem d_Se_append_46 : decode c_Se_append 46 = .ok (.aload_n 0, 1) := by decide +kernel
theorem d_Se_append_47 : decode c_Se_append 47 = .ok (.aload_n 0, 1) := by decide +kernel
theorem d_Se_append_48 : decode c_Se_append 48 = .ok (.getfield 22, 3) := by decide +kernel
theorem d_Se_append_51 : decode c_Se_append 51 = .ok (.iconst 2, 1) := by decide +kernel
theorem d_Se_append_52 : decode c_Se_append 52 = .ok (.aload_n 0, 1) := by decide +kernel
theorem d_Se_append_53 : decode c_Se_append 53 = .ok (.getfield 25, 3) := by decide +kernel
theorem d_Se_append_56 : decode c_Se_append 56 = .ok (.imul, 1) := by decide +kernel
theorem d_Se_append_57 : decode c_Se_append 57 = .ok (.invokestatic 75, 3) := by decide +kernel
theorem d_Se_append_60 : decode c_Se_append 60 = .ok (.putfield 22, 3) := by decide +kernel
theorem d_Se_append_63 : decode c_Se_append 63 = .ok (.aload_n 0, 1) := by decide +kernel
theorem d_Se_append_64 : decode c_Se_append 64 = .ok (.getfield 15, 3) := by decide +kernel
theorem d_Se_append_67 : decode c_Se_append 67 = .ok (.aload_n 0, 1) := by decide +kernel
theorem d_Se_append_68 : decode c_Se_append 68 = .ok (.getfield 25, 3) := by decide +kernel
theorem d_Se_append_71 : decode c_Se_append 71 = .ok (.iload_n 1, 1) := by decide +kernel
theorem d_Se_append_72 : decode c_Se_append 72 = .ok (.iastore, 1) := by decide +kernel
theorem d_Se_append_73 : decode c_Se_append 73 = .ok (.aload_n 0, 1) := by decide +kernel
theorem d_Se_append_74 : decode c_Se_append 74 = .ok (.getfield 19, 3) := by decide +kernel
theorem d_Se_append_77 : decode c_Se_append 77 = .ok (.aload_n 0, 1) := by decide +kernel
theorem d_Se_append_78 : decode c_Se_append 78 = .ok (.getfield 25, 3) := by decide +kernel
theorem d_Se_append_81 : decode c_Se_append 81 = .ok (.iload_n 2, 1) := by decide +kernel
theorem d_Se_append_82 : decode c_Se_append 82 = .ok (.iastore, 1) := by decide +kernel
theorem d_Se_append_83 : decode c_Se_append 83 = .ok (.aload_n 0, 1) := by decide +kernel
theorem d_Se_append_84 : decode c_Se_append 84 = .ok (.getfield 22, 3) := by decide +kernel
theorem d_Se_append_87 : decode c_Se_append 87 = .ok (.aload_n 0, 1) := by decide +kernel
theorem d_Se_append_88 : decode c_Se_append 88 = .ok (.getfield 25, 3) := by decide +kernel
theorem d_Se_append_91 : decode c_Se_append 91 = .ok (.iload_n 3, 1) := by decide +kernel
theorem d_Se_append_92 : decode c_Se_append 92 = .ok (.iastore, 1) := by decide +kernel
theorem d_Se_append_93 : decode c_Se_append 93 = .ok (.aload_n 0, 1) := by decide +kernel
theorem d_Se_append_94 : decode c_Se_append 94 = .ok (.dup, 1) := by decide +kernel
theorem d_Se_append_95 : decode c_Se_append 95 = .ok (.getfield 25, 3) := by decide +kernel
theorem d_Se_append_98 : decode c_Se_append 98 = .ok (.iconst 1, 1) := by decide +kernel
theorem d_Se_append_99 : decode c_Se_append 99 = .ok (.iadd, 1) := by decide +kernel
theorem d_Se_append_100 : decode c_Se_append 100 = .ok (.putfield 25, 3) := by decide +kernel
theorem d_Se_append_103 : decode c_Se_append 103 = .ok (.return_, 1) := by decide +kernel
theorem d_Se_whoAlone_0 : decode c_Se_whoAlone 0 = .ok (.iload_n 0, 1) := by decide +kernel
theorem d_Se_whoAlone_1 : decode c_Se_whoAlone 1 = .ok (.iload_n 1, 1) := by decide +kernel
theorem d_Se_whoAlone_2 : decode c_Se_whoAlone 2 = .ok (.if_icmp .ne 5, 3) := by decide +kernel
theorem d_Se_whoAlone_5 : decode c_Se_whoAlone 5 = .ok (.iconst 0, 1) := by decide +kernel
theorem d_Se_whoAlone_6 : decode c_Se_whoAlone 6 = .ok (.ireturn, 1) := by decide +kernel
theorem d_Se_whoAlone_7 : decode c_Se_whoAlone 7 = .ok (.iload_n 0, 1) := by decide +kernel
theorem d_Se_whoAlone_8 : decode c_Se_whoAlone 8 = .ok (.ifCond .eq 7, 3) := by decide +kernel
theorem d_Se_whoAlone_11 : decode c_Se_whoAlone 11 = .ok (.iconst 1, 1) := by decide +kernel
theorem d_Se_whoAlone_12 : decode c_Se_whoAlone 12 = .ok (.goto 4, 3) := by decide +kernel
theorem d_Se_whoAlone_15 : decode c_Se_whoAlone 15 = .ok (.iconst 2, 1) := by decide +kernel
theorem d_Se_whoAlone_16 : decode c_Se_whoAlone 16 = .ok (.ireturn, 1) := by decide +kernel
theorem d_Se_spellWay_0 : decode c_Se_spellWay 0 = .ok (.iconst 0, 1) := by decide +kernel
theorem d_Se_spellWay_1 : decode c_Se_spellWay 1 = .ok (.istore_n 3, 1) := by decide +kernel
theorem d_Se_spellWay_2 : decode c_Se_spellWay 2 = .ok (.iload_n 1, 1) := by decide +kernel
theorem d_Se_spellWay_3 : decode c_Se_spellWay 3 = .ok (.istore 4, 2) := by decide +kernel
theorem d_Se_spellWay_5 : decode c_Se_spellWay 5 = .ok (.iload 4, 2) := by decide +kernel
theorem d_Se_spellWay_7 : decode c_Se_spellWay 7 = .ok (.ifCond .le 28, 3) := by decide +kernel
theorem d_Se_spellWay_10 : decode c_Se_spellWay 10 = .ok (.iload_n 3, 1) := by decide +kernel
theorem d_Se_spellWay_11 : decode c_Se_spellWay 11 = .ok (.aload_n 0, 1) := by decide +kernel
theorem d_Se_spellWay_12 : decode c_Se_spellWay 12 = .ok (.getfield 25, 3) := by decide +kernel
theorem d_Se_spellWay_15 : decode c_Se_spellWay 15 = .ok (.if_icmp .ge 20, 3) := by decide +kernel
theorem d_Se_spellWay_18 : decode c_Se_spellWay 18 = .ok (.iinc 3 1, 3) := by decide +kernel
theorem d_Se_spellWay_21 : decode c_Se_spellWay 21 = .ok (.aload_n 0, 1) := by decide +kernel
theorem d_Se_spellWay_22 : decode c_Se_spellWay 22 = .ok (.getfield 22, 3) := by decide +kernel
theorem d_Se_spellWay_25 : decode c_Se_spellWay 25 = .ok (.iload 4, 2) := by decide +kernel
theorem d_Se_spellWay_27 : decode c_Se_spellWay 27 = .ok (.iaload, 1) := by decide +kernel
theorem d_Se_spellWay_28 : decode c_Se_spellWay 28 = .ok (.iconst 4, 1) := by decide +kernel
theorem d_Se_spellWay_29 : decode c_Se_spellWay 29 = .ok (.idiv, 1) := by decide +kernel
theorem d_Se_spellWay_30 : decode c_Se_spellWay 30 = .ok (.istore 4, 2) := by decide +kernel
theorem d_Se_spellWay_32 : decode c_Se_spellWay 32 = .ok (.goto (-27), 3) := by decide +kernel
theorem d_Se_spellWay_35 : decode c_Se_spellWay 35 = .ok (.aload_n 2, 1) := by decide +kernel
theorem d_Se_spellWay_36 : decode c_Se_spellWay 36 = .ok (.iload_n 3, 1) := by decide +kernel
theorem d_Se_spellWay_37 : decode c_Se_spellWay 37 = .ok (.invokevirtual 58, 3) := by decide +kernel
theorem d_Se_spellWay_40 : decode c_Se_spellWay 40 = .ok (.iload_n 1, 1) := by decide +kernel
theorem d_Se_spellWay_41 : decode c_Se_spellWay 41 = .ok (.istore 4, 2) := by decide +kernel
theorem d_Se_spellWay_43 : decode c_Se_spellWay 43 = .ok (.iload_n 3, 1) := by decide +kernel
theorem d_Se_spellWay_44 : decode c_Se_spellWay 44 = .ok (.iconst 1, 1) := by decide +kernel
theorem d_Se_spellWay_45 : decode c_Se_spellWay 45 = .ok (.isub, 1) := by decide +kernel
theorem d_Se_spellWay_46 : decode c_Se_spellWay 46 = .ok (.istore 5, 2) := by decide +kernel
theorem d_Se_spellWay_48 : decode c_Se_spellWay 48 = .ok (.iload 5, 2) := by decide +kernel
theorem d_Se_spellWay_50 : decode c_Se_spellWay 50 = .ok (.ifCond .lt 36, 3) := by decide +kernel
theorem d_Se_spellWay_53 : decode c_Se_spellWay 53 = .ok (.aload_n 2, 1) := by decide +kernel
theorem d_Se_spellWay_54 : decode c_Se_spellWay 54 = .ok (.getfield 79, 3) := by decide +kernel
theorem d_Se_spellWay_57 : decode c_Se_spellWay 57 = .ok (.iload 5, 2) := by decide +kernel
theorem d_Se_spellWay_59 : decode c_Se_spellWay 59 = .ok (.aload_n 0, 1) := by decide +kernel
theorem d_Se_spellWay_60 : decode c_Se_spellWay 60 = .ok (.getfield 22, 3) := by decide +kernel
theorem d_Se_spellWay_63 : decode c_Se_spellWay 63 = .ok (.iload 4, 2) := by decide +kernel
theorem d_Se_spellWay_65 : decode c_Se_spellWay 65 = .ok (.iaload, 1) := by decide +kernel
theorem d_Se_spellWay_66 : decode c_Se_spellWay 66 = .ok (.iconst 4, 1) := by decide +kernel
theorem d_Se_spellWay_67 : decode c_Se_spellWay 67 = .ok (.irem, 1) := by decide +kernel
theorem d_Se_spellWay_68 : decode c_Se_spellWay 68 = .ok (.iastore, 1) := by decide +kernel
theorem d_Se_spellWay_69 : decode c_Se_spellWay 69 = .ok (.aload_n 0, 1) := by decide +kernel
theorem d_Se_spellWay_70 : decode c_Se_spellWay 70 = .ok (.getfield 22, 3) := by decide +kernel
theorem d_Se_spellWay_73 : decode c_Se_spellWay 73 = .ok (.iload 4, 2) := by decide +kernel
theorem d_Se_spellWay_75 : decode c_Se_spellWay 75 = .ok (.iaload, 1) := by decide +kernel
theorem d_Se_spellWay_76 : decode c_Se_spellWay 76 = .ok (.iconst 4, 1) := by decide +kernel
theorem d_Se_spellWay_77 : decode c_Se_spellWay 77 = .ok (.idiv, 1) := by decide +kernel
theorem d_Se_spellWay_78 : decode c_Se_spellWay 78 = .ok (.istore 4, 2) := by decide +kernel
theorem d_Se_spellWay_80 : decode c_Se_spellWay 80 = .ok (.iinc 5 (-1), 3) := by decide +kernel
theorem d_Se_spellWay_83 : decode c_Se_spellWay 83 = .ok (.goto (-35), 3) := by decide +kernel
theorem d_Se_spellWay_86 : decode c_Se_spellWay 86 = .ok (.return_, 1) := by decide +kernel
theorem d_Wo_resize_0 : decode c_Wo_resize 0 = .ok (.iload_n 1, 1) := by decide +kernel
theorem d_Wo_resize_1 : decode c_Wo_resize 1 = .ok (.aload_n 0, 1) := by decide +kernel
theorem d_Wo_resize_2 : decode c_Wo_resize 2 = .ok (.getfield 9, 3) := by decide +kernel
theorem d_Wo_resize_5 : decode c_Wo_resize 5 = .ok (.arraylength, 1) := by decide +kernel
theorem d_Wo_resize_6 : decode c_Wo_resize 6 = .ok (.if_icmp .le 10, 3) := by decide +kernel
theorem d_Wo_resize_9 : decode c_Wo_resize 9 = .ok (.aload_n 0, 1) := by decide +kernel
theorem d_Wo_resize_10 : decode c_Wo_resize 10 = .ok (.iload_n 1, 1) := by decide +kernel
theorem d_Wo_resize_11 : decode c_Wo_resize 11 = .ok (.newarray .int, 2) := by decide +kernel
theorem d_Wo_resize_13 : decode c_Wo_resize 13 = .ok (.putfield 9, 3) := by decide +kernel
theorem d_Wo_resize_16 : decode c_Wo_resize 16 = .ok (.aload_n 0, 1) := by decide +kernel
theorem d_Wo_resize_17 : decode c_Wo_resize 17 = .ok (.iload_n 1, 1) := by decide +kernel
theorem d_Wo_resize_18 : decode c_Wo_resize 18 = .ok (.putfield 15, 3) := by decide +kernel
theorem d_Wo_resize_21 : decode c_Wo_resize 21 = .ok (.return_, 1) := by decide +kernel
theorem d_Se_goOn_0 : decode c_Se_goOn 0 = .ok (.aload_n 2, 1) := by decide +kernel
theorem d_Se_goOn_1 : decode c_Se_goOn 1 = .ok (.aload_n 0, 1) := by decide +kernel
theorem d_Se_goOn_2 : decode c_Se_goOn 2 = .ok (.getfield 15, 3) := by decide +kernel
theorem d_Se_goOn_5 : decode c_Se_goOn 5 = .ok (.iload_n 1, 1) := by decide +kernel
theorem d_Se_goOn_6 : decode c_Se_goOn 6 = .ok (.iaload, 1) := by decide +kernel
theorem d_Se_goOn_7 : decode c_Se_goOn 7 = .ok (.invokevirtual 64, 3) := by decide +kernel
theorem d_Se_goOn_10 : decode c_Se_goOn 10 = .ok (.istore 4, 2) := by decide +kernel
theorem d_Se_goOn_12 : decode c_Se_goOn 12 = .ok (.aload_n 3, 1) := by decide +kernel
theorem d_Se_goOn_13 : decode c_Se_goOn 13 = .ok (.aload_n 0, 1) := by decide +kernel
theorem d_Se_goOn_14 : decode c_Se_goOn 14 = .ok (.getfield 19, 3) := by decide +kernel
theorem d_Se_goOn_17 : decode c_Se_goOn 17 = .ok (.iload_n 1, 1) := by decide +kernel
theorem d_Se_goOn_18 : decode c_Se_goOn 18 = .ok (.iaload, 1) := by decide +kernel
theorem d_Se_goOn_19 : decode c_Se_goOn 19 = .ok (.invokevirtual 64, 3) := by decide +kernel
theorem d_Se_goOn_22 : decode c_Se_goOn 22 = .ok (.istore 5, 2) := by decide +kernel
theorem d_Se_goOn_24 : decode c_Se_goOn 24 = .ok (.iconst 0, 1) := by decide +kernel
theorem d_Se_goOn_25 : decode c_Se_goOn 25 = .ok (.istore 6, 2) := by decide +kernel
theorem d_Se_goOn_27 : decode c_Se_goOn 27 = .ok (.iload 6, 2) := by decide +kernel
theorem d_Se_goOn_29 : decode c_Se_goOn 29 = .ok (.iconst 4, 1) := by decide +kernel
theorem d_Se_goOn_30 : decode c_Se_goOn 30 = .ok (.if_icmp .ge 58, 3) := by decide +kernel
theorem d_Se_goOn_33 : decode c_Se_goOn 33 = .ok (.iload 4, 2) := by decide +kernel
theorem d_Se_goOn_35 : decode c_Se_goOn 35 = .ok (.aload_n 2, 1) := by decide +kernel
theorem d_Se_goOn_36 : decode c_Se_goOn 36 = .ok (.getfield 68, 3) := by decide +kernel
theorem d_Se_goOn_39 : decode c_Se_goOn 39 = .ok (.iload 6, 2) := by decide +kernel
theorem d_Se_goOn_41 : decode c_Se_goOn 41 = .ok (.iaload, 1) := by decide +kernel
theorem d_Se_goOn_42 : decode c_Se_goOn 42 = .ok (.iand, 1) := by decide +kernel
theorem d_Se_goOn_43 : decode c_Se_goOn 43 = .ok (.istore 7, 2) := by decide +kernel
theorem d_Se_goOn_45 : decode c_Se_goOn 45 = .ok (.iload 5, 2) := by decide +kernel
theorem d_Se_goOn_47 : decode c_Se_goOn 47 = .ok (.aload_n 3, 1) := by decide +kernel
theorem d_Se_goOn_48 : decode c_Se_goOn 48 = .ok (.getfield 68, 3) := by decide +kernel
theorem d_Se_goOn_51 : decode c_Se_goOn 51 = .ok (.iload 6, 2) := by decide +kernel
theorem d_Se_goOn_53 : decode c_Se_goOn 53 = .ok (.iaload, 1) := by decide +kernel
theorem d_Se_goOn_54 : decode c_Se_goOn 54 = .ok (.iand, 1) := by decide +kernel
theorem d_Se_goOn_55 : decode c_Se_goOn 55 = .ok (.istore 8, 2) := by decide +kernel
theorem d_Se_goOn_57 : decode c_Se_goOn 57 = .ok (.aload_n 0, 1) := by decide +kernel
theorem d_Se_goOn_58 : decode c_Se_goOn 58 = .ok (.iload 7, 2) := by decide +kernel
theorem d_Se_goOn_60 : decode c_Se_goOn 60 = .ok (.iload 8, 2) := by decide +kernel
theorem d_Se_goOn_62 : decode c_Se_goOn 62 = .ok (.invokevirtual 71, 3) := by decide +kernel
theorem d_Se_goOn_65 : decode c_Se_goOn 65 = .ok (.ifCond .eq 17, 3) := by decide +kernel
theorem d_Se_goOn_68 : decode c_Se_goOn 68 = .ok (.aload_n 0, 1) := by decide +kernel
theorem d_Se_goOn_69 : decode c_Se_goOn 69 = .ok (.iload 7, 2) := by decide +kernel
theorem d_Se_goOn_71 : decode c_Se_goOn 71 = .ok (.iload 8, 2) := by decide +kernel
theorem d_Se_goOn_73 : decode c_Se_goOn 73 = .ok (.iload_n 1, 1) := by decide +kernel
theorem d_Se_goOn_74 : decode c_Se_goOn 74 = .ok (.iconst 4, 1) := by decide +kernel
theorem d_Se_goOn_75 : decode c_Se_goOn 75 = .ok (.imul, 1) := by decide +kernel
theorem d_Se_goOn_76 : decode c_Se_goOn 76 = .ok (.iload 6, 2) := by decide +kernel
theorem d_Se_goOn_78 : decode c_Se_goOn 78 = .ok (.iadd, 1) := by decide +kernel
theorem d_Se_goOn_79 : decode c_Se_goOn 79 = .ok (.invokevirtual 37, 3) := by decide +kernel
theorem d_Se_goOn_82 : decode c_Se_goOn 82 = .ok (.iinc 6 1, 3) := by decide +kernel
theorem d_Se_goOn_85 : decode c_Se_goOn 85 = .ok (.goto (-58), 3) := by decide +kernel
theorem d_Se_goOn_88 : decode c_Se_goOn 88 = .ok (.return_, 1) := by decide +kernel
theorem d_Se_markIfNew_0 : decode c_Se_markIfNew 0 = .ok (.iload_n 1, 1) := by decide +kernel
theorem d_Se_markIfNew_1 : decode c_Se_markIfNew 1 = .ok (.bipush 8, 2) := by decide +kernel
theorem d_Se_markIfNew_3 : decode c_Se_markIfNew 3 = .ok (.ishl, 1) := by decide +kernel
theorem d_Se_markIfNew_4 : decode c_Se_markIfNew 4 = .ok (.iload_n 2, 1) := by decide +kernel
theorem d_Se_markIfNew_5 : decode c_Se_markIfNew 5 = .ok (.ior, 1) := by decide +kernel
theorem d_Se_markIfNew_6 : decode c_Se_markIfNew 6 = .ok (.istore_n 3, 1) := by decide +kernel
theorem d_Se_markIfNew_7 : decode c_Se_markIfNew 7 = .ok (.lconst 1, 1) := by decide +kernel
theorem d_Se_markIfNew_8 : decode c_Se_markIfNew 8 = .ok (.iload_n 3, 1) := by decide +kernel
theorem d_Se_markIfNew_9 : decode c_Se_markIfNew 9 = .ok (.bipush 63, 2) := by decide +kernel
theorem d_Se_markIfNew_11 : decode c_Se_markIfNew 11 = .ok (.iand, 1) := by decide +kernel
theorem d_Se_markIfNew_12 : decode c_Se_markIfNew 12 = .ok (.lshl, 1) := by decide +kernel
theorem d_Se_markIfNew_13 : decode c_Se_markIfNew 13 = .ok (.lstore 4, 2) := by decide +kernel
theorem d_Se_markIfNew_15 : decode c_Se_markIfNew 15 = .ok (.aload_n 0, 1) := by decide +kernel
theorem d_Se_markIfNew_16 : decode c_Se_markIfNew 16 = .ok (.getfield 9, 3) := by decide +kernel
theorem d_Se_markIfNew_19 : decode c_Se_markIfNew 19 = .ok (.iload_n 3, 1) := by decide +kernel
theorem d_Se_markIfNew_20 : decode c_Se_markIfNew 20 = .ok (.bipush 6, 2) := by decide +kernel
theorem d_Se_markIfNew_22 : decode c_Se_markIfNew 22 = .ok (.ishr, 1) := by decide +kernel
theorem d_Se_markIfNew_23 : decode c_Se_markIfNew 23 = .ok (.laload, 1) := by decide +kernel
theorem d_Se_markIfNew_24 : decode c_Se_markIfNew 24 = .ok (.lload 4, 2) := by decide +kernel
theorem d_Se_markIfNew_26 : decode c_Se_markIfNew 26 = .ok (.land, 1) := by decide +kernel
theorem d_Se_markIfNew_27 : decode c_Se_markIfNew 27 = .ok (.lconst 0, 1) := by decide +kernel
theorem d_Se_markIfNew_28 : decode c_Se_markIfNew 28 = .ok (.lcmp, 1) := by decide +kernel
theorem d_Se_markIfNew_29 : decode c_Se_markIfNew 29 = .ok (.ifCond .ne 7, 3) := by decide +kernel
theorem d_Se_markIfNew_32 : decode c_Se_markIfNew 32 = .ok (.iconst 1, 1) := by decide +kernel
theorem d_Se_markIfNew_33 : decode c_Se_markIfNew 33 = .ok (.goto 4, 3) := by decide +kernel
theorem d_Se_markIfNew_36 : decode c_Se_markIfNew 36 = .ok (.iconst 0, 1) := by decide +kernel
theorem d_Se_markIfNew_37 : decode c_Se_markIfNew 37 = .ok (.istore 6, 2) := by decide +kernel
theorem d_Se_markIfNew_39 : decode c_Se_markIfNew 39 = .ok (.aload_n 0, 1) := by decide +kernel
theorem d_Se_markIfNew_40 : decode c_Se_markIfNew 40 = .ok (.getfield 9, 3) := by decide +kernel
theorem d_Se_markIfNew_43 : decode c_Se_markIfNew 43 = .ok (.iload_n 3, 1) := by decide +kernel
theorem d_Se_markIfNew_44 : decode c_Se_markIfNew 44 = .ok (.bipush 6, 2) := by decide +kernel
theorem d_Se_markIfNew_46 : decode c_Se_markIfNew 46 = .ok (.ishr, 1) := by decide +kernel
theorem d_Se_markIfNew_47 : decode c_Se_markIfNew 47 = .ok (.dup2, 1) := by decide +kernel
theorem d_Se_markIfNew_48 : decode c_Se_markIfNew 48 = .ok (.laload, 1) := by decide +kernel
theorem d_Se_markIfNew_49 : decode c_Se_markIfNew 49 = .ok (.lload 4, 2) := by decide +kernel
theorem d_Se_markIfNew_51 : decode c_Se_markIfNew 51 = .ok (.lor, 1) := by decide +kernel
theorem d_Se_markIfNew_52 : decode c_Se_markIfNew 52 = .ok (.lastore, 1) := by decide +kernel
theorem d_Se_markIfNew_53 : decode c_Se_markIfNew 53 = .ok (.iload 6, 2) := by decide +kernel
theorem d_Se_markIfNew_55 : decode c_Se_markIfNew 55 = .ok (.ireturn, 1) := by decide +kernel
theorem d_Ws_contains_0 : decode c_Ws_contains 0 = .ok (.iload_n 1, 1) := by decide +kernel
theorem d_Ws_contains_1 : decode c_Ws_contains 1 = .ok (.invokestatic 85, 3) := by decide +kernel
theorem d_Ws_contains_4 : decode c_Ws_contains 4 = .ok (.iload_n 2, 1) := by decide +kernel
theorem d_Ws_contains_5 : decode c_Ws_contains 5 = .ok (.invokestatic 85, 3) := by decide +kernel
theorem d_Ws_contains_8 : decode c_Ws_contains 8 = .ok (.aload_n 0, 1) := by decide +kernel
theorem d_Ws_contains_9 : decode c_Ws_contains 9 = .ok (.getfield 44, 3) := by decide +kernel
theorem d_Ws_contains_12 : decode c_Ws_contains 12 = .ok (.aload_n 0, 1) := by decide +kernel
theorem d_Ws_contains_13 : decode c_Ws_contains 13 = .ok (.getfield 18, 3) := by decide +kernel
theorem d_Ws_contains_16 : decode c_Ws_contains 16 = .ok (.iload_n 1, 1) := by decide +kernel
theorem d_Ws_contains_17 : decode c_Ws_contains 17 = .ok (.aaload, 1) := by decide +kernel
theorem d_Ws_contains_18 : decode c_Ws_contains 18 = .ok (.aload_n 0, 1) := by decide +kernel
theorem d_Ws_contains_19 : decode c_Ws_contains 19 = .ok (.getfield 18, 3) := by decide +kernel
theorem d_Ws_contains_22 : decode c_Ws_contains 22 = .ok (.iload_n 2, 1) := by decide +kernel
theorem d_Ws_contains_23 : decode c_Ws_contains 23 = .ok (.aaload, 1) := by decide +kernel
theorem d_Ws_contains_24 : decode c_Ws_contains 24 = .ok (.iconst 2, 1) := by decide +kernel
theorem d_Ws_contains_25 : decode c_Ws_contains 25 = .ok (.aload_n 0, 1) := by decide +kernel
theorem d_Ws_contains_26 : decode c_Ws_contains 26 = .ok (.getfield 51, 3) := by decide +kernel
theorem d_Ws_contains_29 : decode c_Ws_contains 29 = .ok (.invokevirtual 118, 3) := by decide +kernel
theorem d_Ws_contains_32 : decode c_Ws_contains 32 = .ok (.ifCond .ne 7, 3) := by decide +kernel
theorem d_Ws_contains_35 : decode c_Ws_contains 35 = .ok (.iconst 1, 1) := by decide +kernel
theorem d_Ws_contains_36 : decode c_Ws_contains 36 = .ok (.goto 4, 3) := by decide +kernel
theorem d_Ws_contains_39 : decode c_Ws_contains 39 = .ok (.iconst 0, 1) := by decide +kernel
theorem d_Ws_contains_40 : decode c_Ws_contains 40 = .ok (.ireturn, 1) := by decide +kernel
theorem d_Ws_least_0 : decode c_Ws_least 0 = .ok (.iload_n 1, 1) := by decide +kernel
theorem d_Ws_least_1 : decode c_Ws_least 1 = .ok (.invokestatic 85, 3) := by decide +kernel
theorem d_Ws_least_4 : decode c_Ws_least 4 = .ok (.aload_n 0, 1) := by decide +kernel
theorem d_Ws_least_5 : decode c_Ws_least 5 = .ok (.getfield 44, 3) := by decide +kernel
theorem d_Ws_least_8 : decode c_Ws_least 8 = .ok (.aload_n 0, 1) := by decide +kernel
theorem d_Ws_least_9 : decode c_Ws_least 9 = .ok (.getfield 18, 3) := by decide +kernel
theorem d_Ws_least_12 : decode c_Ws_least 12 = .ok (.iload_n 1, 1) := by decide +kernel
theorem d_Ws_least_13 : decode c_Ws_least 13 = .ok (.aaload, 1) := by decide +kernel
theorem d_Ws_least_14 : decode c_Ws_least 14 = .ok (.aload_n 0, 1) := by decide +kernel
theorem d_Ws_least_15 : decode c_Ws_least 15 = .ok (.getfield 23, 3) := by decide +kernel
theorem d_Ws_least_18 : decode c_Ws_least 18 = .ok (.iconst 1, 1) := by decide +kernel
theorem d_Ws_least_19 : decode c_Ws_least 19 = .ok (.aload_n 0, 1) := by decide +kernel
theorem d_Ws_least_20 : decode c_Ws_least 20 = .ok (.getfield 51, 3) := by decide +kernel
theorem d_Ws_least_23 : decode c_Ws_least 23 = .ok (.invokevirtual 118, 3) := by decide +kernel
theorem d_Ws_least_26 : decode c_Ws_least 26 = .ok (.istore_n 2, 1) := by decide +kernel
theorem d_Ws_least_27 : decode c_Ws_least 27 = .ok (.iload_n 2, 1) := by decide +kernel
theorem d_Ws_least_28 : decode c_Ws_least 28 = .ok (.ifCond .ne 7, 3) := by decide +kernel
theorem d_Ws_least_31 : decode c_Ws_least 31 = .ok (.iconst (-1), 1) := by decide +kernel
theorem d_Ws_least_32 : decode c_Ws_least 32 = .ok (.goto 10, 3) := by decide +kernel
theorem d_Ws_least_35 : decode c_Ws_least 35 = .ok (.aload_n 0, 1) := by decide +kernel
theorem d_Ws_least_36 : decode c_Ws_least 36 = .ok (.getfield 51, 3) := by decide +kernel
theorem d_Ws_least_39 : decode c_Ws_least 39 = .ok (.getfield 122, 3) := by decide +kernel
theorem d_Ws_least_42 : decode c_Ws_least 42 = .ok (.ireturn, 1) := by decide +kernel
theorem d_Ws_count_0 : decode c_Ws_count 0 = .ok (.iload_n 1, 1) := by decide +kernel
theorem d_Ws_count_1 : decode c_Ws_count 1 = .ok (.invokestatic 85, 3) := by decide +kernel
theorem d_Ws_count_4 : decode c_Ws_count 4 = .ok (.iload_n 2, 1) := by decide +kernel
theorem d_Ws_count_5 : decode c_Ws_count 5 = .ok (.invokestatic 123, 3) := by decide +kernel
theorem d_Ws_count_8 : decode c_Ws_count 8 = .ok (.aload_n 0, 1) := by decide +kernel
theorem d_Ws_count_9 : decode c_Ws_count 9 = .ok (.getfield 37, 3) := by decide +kernel
theorem d_Ws_count_12 : decode c_Ws_count 12 = .ok (.aload_n 0, 1) := by decide +kernel
theorem d_Ws_count_13 : decode c_Ws_count 13 = .ok (.getfield 18, 3) := by decide +kernel
theorem d_Ws_count_16 : decode c_Ws_count 16 = .ok (.iload_n 1, 1) := by decide +kernel
theorem d_Ws_count_17 : decode c_Ws_count 17 = .ok (.aaload, 1) := by decide +kernel
theorem d_Ws_count_18 : decode c_Ws_count 18 = .ok (.invokevirtual 126, 3) := by decide +kernel
theorem d_Ws_count_21 : decode c_Ws_count 21 = .ok (.aload_n 0, 1) := by decide +kernel
theorem d_Ws_count_22 : decode c_Ws_count 22 = .ok (.getfield 37, 3) := by decide +kernel
theorem d_Ws_count_25 : decode c_Ws_count 25 = .ok (.iload_n 2, 1) := by decide +kernel
theorem d_Ws_count_26 : decode c_Ws_count 26 = .ok (.invokevirtual 130, 3) := by decide +kernel
theorem d_Ws_count_29 : decode c_Ws_count 29 = .ok (.lreturn, 1) := by decide +kernel
theorem d_Ws_checkLength_0 : decode c_Ws_checkLength 0 = .ok (.iload_n 0, 1) := by decide +kernel
theorem d_Ws_checkLength_1 : decode c_Ws_checkLength 1 = .ok (.ifCond .lt 9, 3) := by decide +kernel
theorem d_Ws_checkLength_4 : decode c_Ws_checkLength 4 = .ok (.iload_n 0, 1) := by decide +kernel
theorem d_Ws_checkLength_5 : decode c_Ws_checkLength 5 = .ok (.bipush 30, 2) := by decide +kernel
theorem d_Ws_checkLength_7 : decode c_Ws_checkLength 7 = .ok (.if_icmp .le 13, 3) := by decide +kernel
theorem d_Ws_checkLength_10 : decode c_Ws_checkLength 10 = .ok (.new 62, 3) := by decide +kernel
theorem d_Ws_checkLength_13 : decode c_Ws_checkLength 13 = .ok (.dup, 1) := by decide +kernel
theorem d_Ws_checkLength_14 : decode c_Ws_checkLength 14 = .ok (.ldc 158, 2) := by decide +kernel
theorem d_Ws_checkLength_16 : decode c_Ws_checkLength 16 = .ok (.invokespecial 66, 3) := by decide +kernel
theorem d_Ws_checkLength_19 : decode c_Ws_checkLength 19 = .ok (.athrow, 1) := by decide +kernel
theorem d_Ws_checkLength_20 : decode c_Ws_checkLength 20 = .ok (.return_, 1) := by decide +kernel
theorem d_Ma_build_0 : decode c_Ma_build 0 = .ok (.aload_n 0, 1) := by decide +kernel
theorem d_Ma_build_1 : decode c_Ma_build 1 = .ok (.getfield 17, 3) := by decide +kernel
theorem d_Ma_build_4 : decode c_Ma_build 4 = .ok (.iconst (-1), 1) := by decide +kernel
theorem d_Ma_build_5 : decode c_Ma_build 5 = .ok (.invokestatic 40, 3) := by decide +kernel
theorem d_Ma_build_8 : decode c_Ma_build 8 = .ok (.aload_n 0, 1) := by decide +kernel
theorem d_Ma_build_9 : decode c_Ma_build 9 = .ok (.iconst 0, 1) := by decide +kernel
theorem d_Ma_build_10 : decode c_Ma_build 10 = .ok (.putfield 36, 3) := by decide +kernel
theorem d_Ma_build_13 : decode c_Ma_build 13 = .ok (.aload_n 0, 1) := by decide +kernel
theorem d_Ma_build_14 : decode c_Ma_build 14 = .ok (.sipush 256, 3) := by decide +kernel
theorem d_Ma_build_17 : decode c_Ma_build 17 = .ok (.aload_n 1, 1) := by decide +kernel
theorem d_Ma_build_18 : decode c_Ma_build 18 = .ok (.invokevirtual 46, 3) := by decide +kernel
theorem d_Ma_build_21 : decode c_Ma_build 21 = .ok (.pop, 1) := by decide +kernel
theorem d_Ma_build_22 : decode c_Ma_build 22 = .ok (.iconst 0, 1) := by decide +kernel
theorem d_Ma_build_23 : decode c_Ma_build 23 = .ok (.istore_n 2, 1) := by decide +kernel
theorem d_Ma_build_24 : decode c_Ma_build 24 = .ok (.iload_n 2, 1) := by decide +kernel
theorem d_Ma_build_25 : decode c_Ma_build 25 = .ok (.aload_n 0, 1) := by decide +kernel
theorem d_Ma_build_26 : decode c_Ma_build 26 = .ok (.getfield 36, 3) := by decide +kernel
theorem d_Ma_build_29 : decode c_Ma_build 29 = .ok (.if_icmp .ge 71, 3) := by decide +kernel
theorem d_Ma_build_32 : decode c_Ma_build 32 = .ok (.iload_n 2, 1) := by decide +kernel
theorem d_Ma_build_33 : decode c_Ma_build 33 = .ok (.sipush 257, 3) := by decide +kernel
theorem d_Ma_build_36 : decode c_Ma_build 36 = .ok (.if_icmp .ge 64, 3) := by decide +kernel
theorem d_Ma_build_39 : decode c_Ma_build 39 = .ok (.aload_n 1, 1) := by decide +kernel
theorem d_Ma_build_40 : decode c_Ma_build 40 = .ok (.aload_n 0, 1) := by decide +kernel
theorem d_Ma_build_41 : decode c_Ma_build 41 = .ok (.getfield 13, 3) := by decide +kernel
theorem d_Ma_build_44 : decode c_Ma_build 44 = .ok (.iload_n 2, 1) := by decide +kernel
theorem d_Ma_build_45 : decode c_Ma_build 45 = .ok (.iaload, 1) := by decide +kernel
theorem d_Ma_build_46 : decode c_Ma_build 46 = .ok (.invokevirtual 50, 3) := by decide +kernel
theorem d_Ma_build_49 : decode c_Ma_build 49 = .ok (.istore_n 3, 1) := by decide +kernel
theorem d_Ma_build_50 : decode c_Ma_build 50 = .ok (.iconst 0, 1) := by decide +kernel
theorem d_Ma_build_51 : decode c_Ma_build 51 = .ok (.istore 4, 2) := by decide +kernel
theorem d_Ma_build_53 : decode c_Ma_build 53 = .ok (.iload 4, 2) := by decide +kernel
theorem d_Ma_build_55 : decode c_Ma_build 55 = .ok (.iconst 4, 1) := by decide +kernel
theorem d_Ma_build_56 : decode c_Ma_build 56 = .ok (.if_icmp .ge 38, 3) := by decide +kernel
theorem d_Ma_build_59 : decode c_Ma_build 59 = .ok (.iload_n 3, 1) := by decide +kernel
theorem d_Ma_build_60 : decode c_Ma_build 60 = .ok (.aload_n 1, 1) := by decide +kernel
theorem d_Ma_build_61 : decode c_Ma_build 61 = .ok (.getfield 54, 3) := by decide +kernel
theorem d_Ma_build_64 : decode c_Ma_build 64 = .ok (.iload 4, 2) := by decide +kernel
theorem d_Ma_build_66 : decode c_Ma_build 66 = .ok (.iaload, 1) := by decide +kernel
theorem d_Ma_build_67 : decode c_Ma_build 67 = .ok (.iand, 1) := by decide +kernel
theorem d_Ma_build_68 : decode c_Ma_build 68 = .ok (.istore 5, 2) := by decide +kernel
theorem d_Ma_build_70 : decode c_Ma_build 70 = .ok (.aload_n 0, 1) := by decide +kernel
theorem d_Ma_build_71 : decode c_Ma_build 71 = .ok (.getfield 20, 3) := by decide +kernel
theorem d_Ma_build_74 : decode c_Ma_build 74 = .ok (.iload_n 2, 1) := by decide +kernel
theorem d_Ma_build_75 : decode c_Ma_build 75 = .ok (.iconst 4, 1) := by decide +kernel
theorem d_Ma_build_76 : decode c_Ma_build 76 = .ok (.imul, 1) := by decide +kernel
theorem d_Ma_build_77 : decode c_Ma_build 77 = .ok (.iload 4, 2) := by decide +kernel
theorem d_Ma_build_79 : decode c_Ma_build 79 = .ok (.iadd, 1) := by decide +kernel
theorem d_Ma_build_80 : decode c_Ma_build 80 = .ok (.aload_n 0, 1) := by decide +kernel
theorem d_Ma_build_81 : decode c_Ma_build 81 = .ok (.iload 5, 2) := by decide +kernel
theorem d_Ma_build_83 : decode c_Ma_build 83 = .ok (.aload_n 1, 1) := by decide +kernel
theorem d_Ma_build_84 : decode c_Ma_build 84 = .ok (.invokevirtual 46, 3) := by decide +kernel
theorem d_Ma_build_87 : decode c_Ma_build 87 = .ok (.iastore, 1) := by decide +kernel
theorem d_Ma_build_88 : decode c_Ma_build 88 = .ok (.iinc 4 1, 3) := by decide +kernel
theorem d_Ma_build_91 : decode c_Ma_build 91 = .ok (.goto (-38), 3) := by decide +kernel
theorem d_Ma_build_94 : decode c_Ma_build 94 = .ok (.iinc 2 1, 3) := by decide +kernel
theorem d_Ma_build_97 : decode c_Ma_build 97 = .ok (.goto (-73), 3) := by decide +kernel
theorem d_Ma_build_100 : decode c_Ma_build 100 = .ok (.return_, 1) := by decide +kernel
theorem d_Ma_numberOf_0 : decode c_Ma_numberOf 0 = .ok (.aload_n 0, 1) := by decide +kernel
theorem d_Ma_numberOf_1 : decode c_Ma_numberOf 1 = .ok (.getfield 17, 3) := by decide +kernel
theorem d_Ma_numberOf_4 : decode c_Ma_numberOf 4 = .ok (.iload_n 1, 1) := by decide +kernel
theorem d_Ma_numberOf_5 : decode c_Ma_numberOf 5 = .ok (.iaload, 1) := by decide +kernel
theorem d_Ma_numberOf_6 : decode c_Ma_numberOf 6 = .ok (.ifCond .ge 55, 3) := by decide +kernel
theorem d_Ma_numberOf_9 : decode c_Ma_numberOf 9 = .ok (.aload_n 0, 1) := by decide +kernel
theorem d_Ma_numberOf_10 : decode c_Ma_numberOf 10 = .ok (.getfield 17, 3) := by decide +kernel
theorem d_Ma_numberOf_13 : decode c_Ma_numberOf 13 = .ok (.iload_n 1, 1) := by decide +kernel
theorem d_Ma_numberOf_14 : decode c_Ma_numberOf 14 = .ok (.aload_n 0, 1) := by decide +kernel
theorem d_Ma_numberOf_15 : decode c_Ma_numberOf 15 = .ok (.getfield 36, 3) := by decide +kernel
theorem d_Ma_numberOf_18 : decode c_Ma_numberOf 18 = .ok (.iastore, 1) := by decide +kernel
theorem d_Ma_numberOf_19 : decode c_Ma_numberOf 19 = .ok (.aload_n 0, 1) := by decide +kernel
theorem d_Ma_numberOf_20 : decode c_Ma_numberOf 20 = .ok (.getfield 13, 3) := by decide +kernel
theorem d_Ma_numberOf_23 : decode c_Ma_numberOf 23 = .ok (.aload_n 0, 1) := by decide +kernel
theorem d_Ma_numberOf_24 : decode c_Ma_numberOf 24 = .ok (.getfield 36, 3) := by decide +kernel
theorem d_Ma_numberOf_27 : decode c_Ma_numberOf 27 = .ok (.iload_n 1, 1) := by decide +kernel
theorem d_Ma_numberOf_28 : decode c_Ma_numberOf 28 = .ok (.iastore, 1) := by decide +kernel
theorem d_Ma_numberOf_29 : decode c_Ma_numberOf 29 = .ok (.aload_n 0, 1) := by decide +kernel
theorem d_Ma_numberOf_30 : decode c_Ma_numberOf 30 = .ok (.getfield 23, 3) := by decide +kernel
theorem d_Ma_numberOf_33 : decode c_Ma_numberOf 33 = .ok (.aload_n 0, 1) := by decide +kernel
theorem d_Ma_numberOf_34 : decode c_Ma_numberOf 34 = .ok (.getfield 36, 3) := by decide +kernel
theorem d_Ma_numberOf_37 : decode c_Ma_numberOf 37 = .ok (.aload_n 2, 1) := by decide +kernel
theorem d_Ma_numberOf_38 : decode c_Ma_numberOf 38 = .ok (.iload_n 1, 1) := by decide +kernel
theorem d_Ma_numberOf_39 : decode c_Ma_numberOf 39 = .ok (.invokevirtual 57, 3) := by decide +kernel
theorem d_Ma_numberOf_42 : decode c_Ma_numberOf 42 = .ok (.ifCond .eq 7, 3) := by decide +kernel
theorem d_Ma_numberOf_45 : decode c_Ma_numberOf 45 = .ok (.iconst 1, 1) := by decide +kernel
theorem d_Ma_numberOf_46 : decode c_Ma_numberOf 46 = .ok (.goto 4, 3) := by decide +kernel
theorem d_Ma_numberOf_49 : decode c_Ma_numberOf 49 = .ok (.iconst 0, 1) := by decide +kernel
theorem d_Ma_numberOf_50 : decode c_Ma_numberOf 50 = .ok (.iastore, 1) := by decide +kernel
theorem d_Ma_numberOf_51 : decode c_Ma_numberOf 51 = .ok (.aload_n 0, 1) := by decide +kernel
theorem d_Ma_numberOf_52 : decode c_Ma_numberOf 52 = .ok (.dup, 1) := by decide +kernel
theorem d_Ma_numberOf_53 : decode c_Ma_numberOf 53 = .ok (.getfield 36, 3) := by decide +kernel
theorem d_Ma_numberOf_56 : decode c_Ma_numberOf 56 = .ok (.iconst 1, 1) := by decide +kernel
theorem d_Ma_numberOf_57 : decode c_Ma_numberOf 57 = .ok (.iadd, 1) := by decide +kernel
theorem d_Ma_numberOf_58 : decode c_Ma_numberOf 58 = .ok (.putfield 36, 3) := by decide +kernel
theorem d_Ma_numberOf_61 : decode c_Ma_numberOf 61 = .ok (.aload_n 0, 1) := by decide +kernel
theorem d_Ma_numberOf_62 : decode c_Ma_numberOf 62 = .ok (.getfield 17, 3) := by decide +kernel
theorem d_Ma_numberOf_65 : decode c_Ma_numberOf 65 = .ok (.iload_n 1, 1) := by decide +kernel
theorem d_Ma_numberOf_66 : decode c_Ma_numberOf 66 = .ok (.iaload, 1) := by decide +kernel
theorem d_Ma_numberOf_67 : decode c_Ma_numberOf 67 = .ok (.ireturn, 1) := by decide +kernel
theorem d_Ma_tally_0 : decode c_Ma_tally 0 = .ok (.iconst 0, 1) := by decide +kernel
theorem d_Ma_tally_1 : decode c_Ma_tally 1 = .ok (.istore_n 2, 1) := by decide +kernel
theorem d_Ma_tally_2 : decode c_Ma_tally 2 = .ok (.iload_n 2, 1) := by decide +kernel
theorem d_Ma_tally_3 : decode c_Ma_tally 3 = .ok (.aload_n 0, 1) := by decide +kernel
theorem d_Ma_tally_4 : decode c_Ma_tally 4 = .ok (.getfield 36, 3) := by decide +kernel
theorem d_Ma_tally_7 : decode c_Ma_tally 7 = .ok (.if_icmp .ge 22, 3) := by decide +kernel
theorem d_Ma_tally_10 : decode c_Ma_tally 10 = .ok (.aload_n 0, 1) := by decide +kernel
theorem d_Ma_tally_11 : decode c_Ma_tally 11 = .ok (.getfield 32, 3) := by decide +kernel
theorem d_Ma_tally_14 : decode c_Ma_tally 14 = .ok (.iload_n 2, 1) := by decide +kernel
theorem d_Ma_tally_15 : decode c_Ma_tally 15 = .ok (.aload_n 0, 1) := by decide +kernel
theorem d_Ma_tally_16 : decode c_Ma_tally 16 = .ok (.getfield 23, 3) := by decide +kernel
theorem d_Ma_tally_19 : decode c_Ma_tally 19 = .ok (.iload_n 2, 1) := by decide +kernel
theorem d_Ma_tally_20 : decode c_Ma_tally 20 = .ok (.iaload, 1) := by decide +kernel
theorem d_Ma_tally_21 : decode c_Ma_tally 21 = .ok (.i2l, 1) := by decide +kernel
theorem d_Ma_tally_22 : decode c_Ma_tally 22 = .ok (.lastore, 1) := by decide +kernel
theorem d_Ma_tally_23 : decode c_Ma_tally 23 = .ok (.iinc 2 1, 3) := by decide +kernel
theorem d_Ma_tally_26 : decode c_Ma_tally 26 = .ok (.goto (-24), 3) := by decide +kernel
theorem d_Ma_tally_29 : decode c_Ma_tally 29 = .ok (.iconst 1, 1) := by decide +kernel
theorem d_Ma_tally_30 : decode c_Ma_tally 30 = .ok (.istore_n 2, 1) := by decide +kernel
theorem d_Ma_tally_31 : decode c_Ma_tally 31 = .ok (.iload_n 2, 1) := by decide +kernel
theorem d_Ma_tally_32 : decode c_Ma_tally 32 = .ok (.iload_n 1, 1) := by decide +kernel
theorem d_Ma_tally_33 : decode c_Ma_tally 33 = .ok (.if_icmp .gt 49, 3) := by decide +kernel
theorem d_Ma_tally_36 : decode c_Ma_tally 36 = .ok (.iconst 0, 1) := by decide +kernel
theorem d_Ma_tally_37 : decode c_Ma_tally 37 = .ok (.istore_n 3, 1) := by decide +kernel
theorem d_Ma_tally_38 : decode c_Ma_tally 38 = .ok (.iload_n 3, 1) := by decide +kernel
theorem d_Ma_tally_39 : decode c_Ma_tally 39 = .ok (.aload_n 0, 1) := by decide +kernel
theorem d_Ma_tally_40 : decode c_Ma_tally 40 = .ok (.getfield 36, 3) := by decide +kernel
theorem d_Ma_tally_43 : decode c_Ma_tally 43 = .ok (.if_icmp .ge 33, 3) := by decide +kernel
theorem d_Ma_tally_46 : decode c_Ma_tally 46 = .ok (.aload_n 0, 1) := by decide +kernel
theorem d_Ma_tally_47 : decode c_Ma_tally 47 = .ok (.getfield 32, 3) := by decide +kernel
theorem d_Ma_tally_50 : decode c_Ma_tally 50 = .ok (.iload_n 2, 1) := by decide +kernel
theorem d_Ma_tally_51 : decode c_Ma_tally 51 = .ok (.sipush 257, 3) := by decide +kernel
theorem d_Ma_tally_54 : decode c_Ma_tally 54 = .ok (.imul, 1) := by decide +kernel
theorem d_Ma_tally_55 : decode c_Ma_tally 55 = .ok (.iload_n 3, 1) := by decide +kernel
theorem d_Ma_tally_56 : decode c_Ma_tally 56 = .ok (.iadd, 1) := by decide +kernel
theorem d_Ma_tally_57 : decode c_Ma_tally 57 = .ok (.aload_n 0, 1) := by decide +kernel
theorem d_Ma_tally_58 : decode c_Ma_tally 58 = .ok (.iload_n 3, 1) := by decide +kernel
theorem d_Ma_tally_59 : decode c_Ma_tally 59 = .ok (.iload_n 2, 1) := by decide +kernel
theorem d_Ma_tally_60 : decode c_Ma_tally 60 = .ok (.iconst 1, 1) := by decide +kernel
theorem d_Ma_tally_61 : decode c_Ma_tally 61 = .ok (.isub, 1) := by decide +kernel
theorem d_Ma_tally_62 : decode c_Ma_tally 62 = .ok (.sipush 257, 3) := by decide +kernel
theorem d_Ma_tally_65 : decode c_Ma_tally 65 = .ok (.imul, 1) := by decide +kernel
theorem d_Ma_tally_66 : decode c_Ma_tally 66 = .ok (.invokevirtual 61, 3) := by decide +kernel
theorem d_Ma_tally_69 : decode c_Ma_tally 69 = .ok (.lastore, 1) := by decide +kernel
theorem d_Ma_tally_70 : decode c_Ma_tally 70 = .ok (.iinc 3 1, 3) := by decide +kernel
theorem d_Ma_tally_73 : decode c_Ma_tally 73 = .ok (.goto (-35), 3) := by decide +kernel
theorem d_Ma_tally_76 : decode c_Ma_tally 76 = .ok (.iinc 2 1, 3) := by decide +kernel
theorem d_Ma_tally_79 : decode c_Ma_tally 79 = .ok (.goto (-48), 3) := by decide +kernel
theorem d_Ma_tally_82 : decode c_Ma_tally 82 = .ok (.aload_n 0, 1) := by decide +kernel
theorem d_Ma_tally_83 : decode c_Ma_tally 83 = .ok (.getfield 32, 3) := by decide +kernel
theorem d_Ma_tally_86 : decode c_Ma_tally 86 = .ok (.iload_n 1, 1) := by decide +kernel
theorem d_Ma_tally_87 : decode c_Ma_tally 87 = .ok (.sipush 257, 3) := by decide +kernel
theorem d_Ma_tally_90 : decode c_Ma_tally 90 = .ok (.imul, 1) := by decide +kernel
theorem d_Ma_tally_91 : decode c_Ma_tally 91 = .ok (.laload, 1) := by decide +kernel
theorem d_Ma_tally_92 : decode c_Ma_tally 92 = .ok (.lreturn, 1) := by decide +kernel
theorem d_Ma_tallyOver_0 : decode c_Ma_tallyOver 0 = .ok (.lconst 0, 1) := by decide +kernel
theorem d_Ma_tallyOver_1 : decode c_Ma_tallyOver 1 = .ok (.lstore_n 3, 1) := by decide +kernel
theorem d_Ma_tallyOver_2 : decode c_Ma_tallyOver 2 = .ok (.iconst 0, 1) := by decide +kernel
theorem d_Ma_tallyOver_3 : decode c_Ma_tallyOver 3 = .ok (.istore 5, 2) := by decide +kernel
theorem d_Ma_tallyOver_5 : decode c_Ma_tallyOver 5 = .ok (.iload 5, 2) := by decide +kernel
theorem d_Ma_tallyOver_7 : decode c_Ma_tallyOver 7 = .ok (.iconst 4, 1) := by decide +kernel
theorem d_Ma_tallyOver_8 : decode c_Ma_tallyOver 8 = .ok (.if_icmp .ge 30, 3) := by decide +kernel
theorem d_Ma_tallyOver_11 : decode c_Ma_tallyOver 11 = .ok (.lload_n 3, 1) := by decide +kernel
theorem d_Ma_tallyOver_12 : decode c_Ma_tallyOver 12 = .ok (.aload_n 0, 1) := by decide +kernel
theorem d_Ma_tallyOver_13 : decode c_Ma_tallyOver 13 = .ok (.getfield 32, 3) := by decide +kernel
theorem d_Ma_tallyOver_16 : decode c_Ma_tallyOver 16 = .ok (.iload_n 2, 1) := by decide +kernel
theorem d_Ma_tallyOver_17 : decode c_Ma_tallyOver 17 = .ok (.aload_n 0, 1) := by decide +kernel
theorem d_Ma_tallyOver_18 : decode c_Ma_tallyOver 18 = .ok (.getfield 20, 3) := by decide +kernel
theorem d_Ma_tallyOver_21 : decode c_Ma_tallyOver 21 = .ok (.iload_n 1, 1) := by decide +kernel
theorem d_Ma_tallyOver_22 : decode c_Ma_tallyOver 22 = .ok (.iconst 4, 1) := by decide +kernel
theorem d_Ma_tallyOver_23 : decode c_Ma_tallyOver 23 = .ok (.imul, 1) := by decide +kernel
theorem d_Ma_tallyOver_24 : decode c_Ma_tallyOver 24 = .ok (.iload 5, 2) := by decide +kernel
theorem d_Ma_tallyOver_26 : decode c_Ma_tallyOver 26 = .ok (.iadd, 1) := by decide +kernel
theorem d_Ma_tallyOver_27 : decode c_Ma_tallyOver 27 = .ok (.iaload, 1) := by decide +kernel
theorem d_Ma_tallyOver_28 : decode c_Ma_tallyOver 28 = .ok (.iadd, 1) := by decide +kernel
theorem d_Ma_tallyOver_29 : decode c_Ma_tallyOver 29 = .ok (.laload, 1) := by decide +kernel
theorem d_Ma_tallyOver_30 : decode c_Ma_tallyOver 30 = .ok (.ladd, 1) := by decide +kernel
theorem d_Ma_tallyOver_31 : decode c_Ma_tallyOver 31 = .ok (.lstore_n 3, 1) := by decide +kernel
theorem d_Ma_tallyOver_32 : decode c_Ma_tallyOver 32 = .ok (.iinc 5 1, 3) := by decide +kernel
theorem d_Ma_tallyOver_35 : decode c_Ma_tallyOver 35 = .ok (.goto (-30), 3) := by decide +kernel
theorem d_Ma_tallyOver_38 : decode c_Ma_tallyOver 38 = .ok (.lload_n 3, 1) := by decide +kernel
theorem d_Ma_tallyOver_39 : decode c_Ma_tallyOver 39 = .ok (.lreturn, 1) := by decide +kernel
theorem d_Ws_word_0 : decode c_Ws_word 0 = .ok (.iload_n 1, 1) := by decide +kernel
theorem d_Ws_word_1 : decode c_Ws_word 1 = .ok (.invokestatic 85, 3) := by decide +kernel
theorem d_Ws_word_4 : decode c_Ws_word 4 = .ok (.iload_n 2, 1) := by decide +kernel
theorem d_Ws_word_5 : decode c_Ws_word 5 = .ok (.invokestatic 123, 3) := by decide +kernel
theorem d_Ws_word_8 : decode c_Ws_word 8 = .ok (.lload_n 3, 1) := by decide +kernel
theorem d_Ws_word_9 : decode c_Ws_word 9 = .ok (.lconst 0, 1) := by decide +kernel
theorem d_Ws_word_10 : decode c_Ws_word 10 = .ok (.lcmp, 1) := by decide +kernel
theorem d_Ws_word_11 : decode c_Ws_word 11 = .ok (.ifCond .ge 13, 3) := by decide +kernel
theorem d_Ws_word_14 : decode c_Ws_word 14 = .ok (.new 62, 3) := by decide +kernel
theorem d_Ws_word_17 : decode c_Ws_word 17 = .ok (.dup, 1) := by decide +kernel
theorem d_Ws_word_18 : decode c_Ws_word 18 = .ok (.ldc 134, 2) := by decide +kernel
theorem d_Ws_word_20 : decode c_Ws_word 20 = .ok (.invokespecial 66, 3) := by decide +kernel
theorem d_Ws_word_23 : decode c_Ws_word 23 = .ok (.athrow, 1) := by decide +kernel
theorem d_Ws_word_24 : decode c_Ws_word 24 = .ok (.aload_n 0, 1) := by decide +kernel
theorem d_Ws_word_25 : decode c_Ws_word 25 = .ok (.getfield 37, 3) := by decide +kernel
theorem d_Ws_word_28 : decode c_Ws_word 28 = .ok (.aload_n 0, 1) := by decide +kernel
theorem d_Ws_word_29 : decode c_Ws_word 29 = .ok (.getfield 18, 3) := by decide +kernel
theorem d_Ws_word_32 : decode c_Ws_word 32 = .ok (.iload_n 1, 1) := by decide +kernel
theorem d_Ws_word_33 : decode c_Ws_word 33 = .ok (.aaload, 1) := by decide +kernel
theorem d_Ws_word_34 : decode c_Ws_word 34 = .ok (.invokevirtual 126, 3) := by decide +kernel
theorem d_Ws_word_37 : decode c_Ws_word 37 = .ok (.lload_n 3, 1) := by decide +kernel
theorem d_Ws_word_38 : decode c_Ws_word 38 = .ok (.aload_n 0, 1) := by decide +kernel
theorem d_Ws_word_39 : decode c_Ws_word 39 = .ok (.getfield 37, 3) := by decide +kernel
theorem d_Ws_word_42 : decode c_Ws_word 42 = .ok (.iload_n 2, 1) := by decide +kernel
theorem d_Ws_word_43 : decode c_Ws_word 43 = .ok (.invokevirtual 130, 3) := by decide +kernel
theorem d_Ws_word_46 : decode c_Ws_word 46 = .ok (.lcmp, 1) := by decide +kernel
theorem d_Ws_word_47 : decode c_Ws_word 47 = .ok (.ifCond .lt 13, 3) := by decide +kernel
theorem d_Ws_word_50 : decode c_Ws_word 50 = .ok (.aload_n 0, 1) := by decide +kernel
theorem d_Ws_word_51 : decode c_Ws_word 51 = .ok (.getfield 51, 3) := by decide +kernel
theorem d_Ws_word_54 : decode c_Ws_word 54 = .ok (.iconst 0, 1) := by decide +kernel
theorem d_Ws_word_55 : decode c_Ws_word 55 = .ok (.invokevirtual 136, 3) := by decide +kernel
theorem d_Ws_word_58 : decode c_Ws_word 58 = .ok (.iconst 0, 1) := by decide +kernel
theorem d_Ws_word_59 : decode c_Ws_word 59 = .ok (.ireturn, 1) := by decide +kernel
theorem d_Ws_word_60 : decode c_Ws_word 60 = .ok (.aload_n 0, 1) := by decide +kernel
theorem d_Ws_word_61 : decode c_Ws_word 61 = .ok (.getfield 37, 3) := by decide +kernel
theorem d_Ws_word_64 : decode c_Ws_word 64 = .ok (.iload_n 2, 1) := by decide +kernel
theorem d_Ws_word_65 : decode c_Ws_word 65 = .ok (.lload_n 3, 1) := by decide +kernel
theorem d_Ws_word_66 : decode c_Ws_word 66 = .ok (.aload_n 0, 1) := by decide +kernel
theorem d_Ws_word_67 : decode c_Ws_word 67 = .ok (.getfield 51, 3) := by decide +kernel
theorem d_Ws_word_70 : decode c_Ws_word 70 = .ok (.invokevirtual 139, 3) := by decide +kernel
theorem d_Ws_word_73 : decode c_Ws_word 73 = .ok (.iconst 1, 1) := by decide +kernel
theorem d_Ws_word_74 : decode c_Ws_word 74 = .ok (.ireturn, 1) := by decide +kernel
theorem d_Ma_spell_0 : decode c_Ma_spell 0 = .ok (.aload 4, 2) := by decide +kernel
theorem d_Ma_spell_2 : decode c_Ma_spell 2 = .ok (.iload_n 1, 1) := by decide +kernel
theorem d_Ma_spell_3 : decode c_Ma_spell 3 = .ok (.invokevirtual 65, 3) := by decide +kernel
theorem d_Ma_spell_6 : decode c_Ma_spell 6 = .ok (.iconst 0, 1) := by decide +kernel
theorem d_Ma_spell_7 : decode c_Ma_spell 7 = .ok (.istore 5, 2) := by decide +kernel
theorem d_Ma_spell_9 : decode c_Ma_spell 9 = .ok (.lload_n 2, 1) := by decide +kernel
theorem d_Ma_spell_10 : decode c_Ma_spell 10 = .ok (.lstore 6, 2) := by decide +kernel
theorem d_Ma_spell_12 : decode c_Ma_spell 12 = .ok (.iconst 0, 1) := by decide +kernel
theorem d_Ma_spell_13 : decode c_Ma_spell 13 = .ok (.istore 8, 2) := by decide +kernel
theorem d_Ma_spell_15 : decode c_Ma_spell 15 = .ok (.iload 8, 2) := by decide +kernel
theorem d_Ma_spell_17 : decode c_Ma_spell 17 = .ok (.iload_n 1, 1) := by decide +kernel
theorem d_Ma_spell_18 : decode c_Ma_spell 18 = .ok (.if_icmp .ge 106, 3) := by decide +kernel
theorem d_Ma_spell_21 : decode c_Ma_spell 21 = .ok (.iload_n 1, 1) := by decide +kernel
theorem d_Ma_spell_22 : decode c_Ma_spell 22 = .ok (.iconst 1, 1) := by decide +kernel
theorem d_Ma_spell_23 : decode c_Ma_spell 23 = .ok (.isub, 1) := by decide +kernel
theorem d_Ma_spell_24 : decode c_Ma_spell 24 = .ok (.iload 8, 2) := by decide +kernel
theorem d_Ma_spell_26 : decode c_Ma_spell 26 = .ok (.isub, 1) := by decide +kernel
theorem d_Ma_spell_27 : decode c_Ma_spell 27 = .ok (.sipush 257, 3) := by decide +kernel
theorem d_Ma_spell_30 : decode c_Ma_spell 30 = .ok (.imul, 1) := by decide +kernel
theorem d_Ma_spell_31 : decode c_Ma_spell 31 = .ok (.istore 9, 2) := by decide +kernel
theorem d_Ma_spell_33 : decode c_Ma_spell 33 = .ok (.iconst 0, 1) := by decide +kernel
theorem d_Ma_spell_34 : decode c_Ma_spell 34 = .ok (.istore 10, 2) := by decide +kernel
theorem d_Ma_spell_36 : decode c_Ma_spell 36 = .ok (.aload_n 0, 1) := by decide +kernel
theorem d_Ma_spell_37 : decode c_Ma_spell 37 = .ok (.getfield 20, 3) := by decide +kernel
theorem d_Ma_spell_40 : decode c_Ma_spell 40 = .ok (.iload 5, 2) := by decide +kernel
theorem d_Ma_spell_42 : decode c_Ma_spell 42 = .ok (.iconst 4, 1) := by decide +kernel
theorem d_Ma_spell_43 : decode c_Ma_spell 43 = .ok (.imul, 1) := by decide +kernel
theorem d_Ma_spell_44 : decode c_Ma_spell 44 = .ok (.iaload, 1) := by decide +kernel
theorem d_Ma_spell_45 : decode c_Ma_spell 45 = .ok (.istore 11, 2) := by decide +kernel
theorem d_Ma_spell_47 : decode c_Ma_spell 47 = .ok (.iload 10, 2) := by decide +kernel
theorem d_Ma_spell_49 : decode c_Ma_spell 49 = .ok (.iconst 3, 1) := by decide +kernel
theorem d_Ma_spell_50 : decode c_Ma_spell 50 = .ok (.if_icmp .ge 54, 3) := by decide +kernel
theorem d_Ma_spell_53 : decode c_Ma_spell 53 = .ok (.lload 6, 2) := by decide +kernel
theorem d_Ma_spell_55 : decode c_Ma_spell 55 = .ok (.aload_n 0, 1) := by decide +kernel
theorem d_Ma_spell_56 : decode c_Ma_spell 56 = .ok (.getfield 32, 3) := by decide +kernel
theorem d_Ma_spell_59 : decode c_Ma_spell 59 = .ok (.iload 9, 2) := by decide +kernel
theorem d_Ma_spell_61 : decode c_Ma_spell 61 = .ok (.iload 11, 2) := by decide +kernel
theorem d_Ma_spell_63 : decode c_Ma_spell 63 = .ok (.iadd, 1) := by decide +kernel
theorem d_Ma_spell_64 : decode c_Ma_spell 64 = .ok (.laload, 1) := by decide +kernel
theorem d_Ma_spell_65 : decode c_Ma_spell 65 = .ok (.lcmp, 1) := by decide +kernel
theorem d_Ma_spell_66 : decode c_Ma_spell 66 = .ok (.ifCond .lt 38, 3) := by decide +kernel
theorem d_Ma_spell_69 : decode c_Ma_spell 69 = .ok (.lload 6, 2) := by decide +kernel
theorem d_Ma_spell_71 : decode c_Ma_spell 71 = .ok (.aload_n 0, 1) := by decide +kernel
theorem d_Ma_spell_72 : decode c_Ma_spell 72 = .ok (.getfield 32, 3) := by decide +kernel
theorem d_Ma_spell_75 : decode c_Ma_spell 75 = .ok (.iload 9, 2) := by decide +kernel
theorem d_Ma_spell_77 : decode c_Ma_spell 77 = .ok (.iload 11, 2) := by decide +kernel
theorem d_Ma_spell_79 : decode c_Ma_spell 79 = .ok (.iadd, 1) := by decide +kernel
theorem d_Ma_spell_80 : decode c_Ma_spell 80 = .ok (.laload, 1) := by decide +kernel
theorem d_Ma_spell_81 : decode c_Ma_spell 81 = .ok (.lsub, 1) := by decide +kernel
theorem d_Ma_spell_82 : decode c_Ma_spell 82 = .ok (.lstore 6, 2) := by decide +kernel
theorem d_Ma_spell_84 : decode c_Ma_spell 84 = .ok (.iinc 10 1, 3) := by decide +kernel
theorem d_Ma_spell_87 : decode c_Ma_spell 87 = .ok (.aload_n 0, 1) := by decide +kernel
theorem d_Ma_spell_88 : decode c_Ma_spell 88 = .ok (.getfield 20, 3) := by decide +kernel
theorem d_Ma_spell_91 : decode c_Ma_spell 91 = .ok (.iload 5, 2) := by decide +kernel
theorem d_Ma_spell_93 : decode c_Ma_spell 93 = .ok (.iconst 4, 1) := by decide +kernel
theorem d_Ma_spell_94 : decode c_Ma_spell 94 = .ok (.imul, 1) := by decide +kernel
theorem d_Ma_spell_95 : decode c_Ma_spell 95 = .ok (.iload 10, 2) := by decide +kernel
theorem d_Ma_spell_97 : decode c_Ma_spell 97 = .ok (.iadd, 1) := by decide +kernel
theorem d_Ma_spell_98 : decode c_Ma_spell 98 = .ok (.iaload, 1) := by decide +kernel
theorem d_Ma_spell_99 : decode c_Ma_spell 99 = .ok (.istore 11, 2) := by decide +kernel
theorem d_Ma_spell_101 : decode c_Ma_spell 101 = .ok (.goto (-54), 3) := by decide +kernel
theorem d_Ma_spell_104 : decode c_Ma_spell 104 = .ok (.aload 4, 2) := by decide +kernel
theorem d_Ma_spell_106 : decode c_Ma_spell 106 = .ok (.getfield 71, 3) := by decide +kernel
theorem d_Ma_spell_109 : decode c_Ma_spell 109 = .ok (.iload 8, 2) := by decide +kernel
theorem d_Ma_spell_111 : decode c_Ma_spell 111 = .ok (.iload 10, 2) := by decide +kernel
theorem d_Ma_spell_113 : decode c_Ma_spell 113 = .ok (.iastore, 1) := by decide +kernel
theorem d_Ma_spell_114 : decode c_Ma_spell 114 = .ok (.iload 11, 2) := by decide +kernel
theorem d_Ma_spell_116 : decode c_Ma_spell 116 = .ok (.istore 5, 2) := by decide +kernel
theorem d_Ma_spell_118 : decode c_Ma_spell 118 = .ok (.iinc 8 1, 3) := by decide +kernel
theorem d_Ma_spell_121 : decode c_Ma_spell 121 = .ok (.goto (-106), 3) := by decide +kernel
theorem d_Ma_spell_124 : decode c_Ma_spell 124 = .ok (.return_, 1) := by decide +kernel
theorem d_Ws_states_0 : decode c_Ws_states 0 = .ok (.iload_n 1, 1) := by decide +kernel
theorem d_Ws_states_1 : decode c_Ws_states 1 = .ok (.invokestatic 85, 3) := by decide +kernel
theorem d_Ws_states_4 : decode c_Ws_states 4 = .ok (.aload_n 0, 1) := by decide +kernel
theorem d_Ws_states_5 : decode c_Ws_states 5 = .ok (.getfield 37, 3) := by decide +kernel
theorem d_Ws_states_8 : decode c_Ws_states 8 = .ok (.aload_n 0, 1) := by decide +kernel
theorem d_Ws_states_9 : decode c_Ws_states 9 = .ok (.getfield 18, 3) := by decide +kernel
theorem d_Ws_states_12 : decode c_Ws_states 12 = .ok (.iload_n 1, 1) := by decide +kernel
theorem d_Ws_states_13 : decode c_Ws_states 13 = .ok (.aaload, 1) := by decide +kernel
theorem d_Ws_states_14 : decode c_Ws_states 14 = .ok (.invokevirtual 126, 3) := by decide +kernel
theorem d_Ws_states_17 : decode c_Ws_states 17 = .ok (.aload_n 0, 1) := by decide +kernel
theorem d_Ws_states_18 : decode c_Ws_states 18 = .ok (.getfield 37, 3) := by decide +kernel
theorem d_Ws_states_21 : decode c_Ws_states 21 = .ok (.invokevirtual 143, 3) := by decide +kernel
theorem d_Ws_states_24 : decode c_Ws_states 24 = .ok (.ireturn, 1) := by decide +kernel
theorem d_Ma_groups_0 : decode c_Ma_groups 0 = .ok (.aload_n 0, 1) := by decide +kernel
theorem d_Ma_groups_1 : decode c_Ma_groups 1 = .ok (.getfield 23, 3) := by decide +kernel
theorem d_Ma_groups_4 : decode c_Ma_groups 4 = .ok (.iconst 0, 1) := by decide +kernel
theorem d_Ma_groups_5 : decode c_Ma_groups 5 = .ok (.aload_n 0, 1) := by decide +kernel
theorem d_Ma_groups_6 : decode c_Ma_groups 6 = .ok (.getfield 26, 3) := by decide +kernel
theorem d_Ma_groups_9 : decode c_Ma_groups 9 = .ok (.iconst 0, 1) := by decide +kernel
theorem d_Ma_groups_10 : decode c_Ma_groups 10 = .ok (.aload_n 0, 1) := by decide +kernel
theorem d_Ma_groups_11 : decode c_Ma_groups 11 = .ok (.getfield 36, 3) := by decide +kernel
theorem d_Ma_groups_14 : decode c_Ma_groups 14 = .ok (.invokestatic 74, 3) := by decide +kernel
theorem d_Ma_groups_17 : decode c_Ma_groups 17 = .ok (.iconst 0, 1) := by decide +kernel
theorem d_Ma_groups_18 : decode c_Ma_groups 18 = .ok (.istore_n 1, 1) := by decide +kernel
theorem d_Ma_groups_19 : decode c_Ma_groups 19 = .ok (.iconst 0, 1) := by decide +kernel
theorem d_Ma_groups_20 : decode c_Ma_groups 20 = .ok (.istore_n 2, 1) := by decide +kernel
theorem d_Ma_groups_21 : decode c_Ma_groups 21 = .ok (.iload_n 2, 1) := by decide +kernel
theorem d_Ma_groups_22 : decode c_Ma_groups 22 = .ok (.aload_n 0, 1) := by decide +kernel
theorem d_Ma_groups_23 : decode c_Ma_groups 23 = .ok (.getfield 36, 3) := by decide +kernel
theorem d_Ma_groups_26 : decode c_Ma_groups 26 = .ok (.if_icmp .gt 23, 3) := by decide +kernel
theorem d_Ma_groups_29 : decode c_Ma_groups 29 = .ok (.aload_n 0, 1) := by decide +kernel
theorem d_Ma_groups_30 : decode c_Ma_groups 30 = .ok (.invokevirtual 80, 3) := by decide +kernel
theorem d_Ma_groups_33 : decode c_Ma_groups 33 = .ok (.istore_n 3, 1) := by decide +kernel
theorem d_Ma_groups_34 : decode c_Ma_groups 34 = .ok (.iload_n 3, 1) := by decide +kernel
theorem d_Ma_groups_35 : decode c_Ma_groups 35 = .ok (.iload_n 1, 1) := by decide +kernel
theorem d_Ma_groups_36 : decode c_Ma_groups 36 = .ok (.if_icmp .ne 5, 3) := by decide +kernel
theorem d_Ma_groups_39 : decode c_Ma_groups 39 = .ok (.iload_n 1, 1) := by decide +kernel
theorem d_Ma_groups_40 : decode c_Ma_groups 40 = .ok (.ireturn, 1) := by decide +kernel
theorem d_Ma_groups_41 : decode c_Ma_groups 41 = .ok (.iload_n 3, 1) := by decide +kernel
theorem d_Ma_groups_42 : decode c_Ma_groups 42 = .ok (.istore_n 1, 1) := by decide +kernel
theorem d_Ma_groups_43 : decode c_Ma_groups 43 = .ok (.iinc 2 1, 3) := by decide +kernel
theorem d_Ma_groups_46 : decode c_Ma_groups 46 = .ok (.goto (-25), 3) := by decide +kernel
theorem d_Ma_groups_49 : decode c_Ma_groups 49 = .ok (.iload_n 1, 1) := by decide +kernel
theorem d_Ma_groups_50 : decode c_Ma_groups 50 = .ok (.ireturn, 1) := by decide +kernel
theorem d_Ma_refine_0 : decode c_Ma_refine 0 = .ok (.iconst 0, 1) := by decide +kernel
theorem d_Ma_refine_1 : decode c_Ma_refine 1 = .ok (.istore_n 1, 1) := by decide +kernel
theorem d_Ma_refine_2 : decode c_Ma_refine 2 = .ok (.iconst 0, 1) := by decide +kernel
theorem d_Ma_refine_3 : decode c_Ma_refine 3 = .ok (.istore_n 2, 1) := by decide +kernel
theorem d_Ma_refine_4 : decode c_Ma_refine 4 = .ok (.iload_n 2, 1) := by decide +kernel
theorem d_Ma_refine_5 : decode c_Ma_refine 5 = .ok (.aload_n 0, 1) := by decide +kernel
theorem d_Ma_refine_6 : decode c_Ma_refine 6 = .ok (.getfield 36, 3) := by decide +kernel
theorem d_Ma_refine_9 : decode c_Ma_refine 9 = .ok (.if_icmp .ge 45, 3) := by decide +kernel
theorem d_Ma_refine_12 : decode c_Ma_refine 12 = .ok (.aload_n 0, 1) := by decide +kernel
theorem d_Ma_refine_13 : decode c_Ma_refine 13 = .ok (.iload_n 2, 1) := by decide +kernel
theorem d_Ma_refine_14 : decode c_Ma_refine 14 = .ok (.invokevirtual 84, 3) := by decide +kernel
theorem d_Ma_refine_17 : decode c_Ma_refine 17 = .ok (.istore_n 3, 1) := by decide +kernel
theorem d_Ma_refine_18 : decode c_Ma_refine 18 = .ok (.iload_n 3, 1) := by decide +kernel
theorem d_Ma_refine_19 : decode c_Ma_refine 19 = .ok (.iload_n 2, 1) := by decide +kernel
theorem d_Ma_refine_20 : decode c_Ma_refine 20 = .ok (.if_icmp .ge 18, 3) := by decide +kernel
theorem d_Ma_refine_23 : decode c_Ma_refine 23 = .ok (.aload_n 0, 1) := by decide +kernel
theorem d_Ma_refine_24 : decode c_Ma_refine 24 = .ok (.getfield 29, 3) := by decide +kernel
theorem d_Ma_refine_27 : decode c_Ma_refine 27 = .ok (.iload_n 2, 1) := by decide +kernel
theorem d_Ma_refine_28 : decode c_Ma_refine 28 = .ok (.aload_n 0, 1) := by decide +kernel
theorem d_Ma_refine_29 : decode c_Ma_refine 29 = .ok (.getfield 29, 3) := by decide +kernel
theorem d_Ma_refine_32 : decode c_Ma_refine 32 = .ok (.iload_n 3, 1) := by decide +kernel
theorem d_Ma_refine_33 : decode c_Ma_refine 33 = .ok (.iaload, 1) := by decide +kernel
theorem d_Ma_refine_34 : decode c_Ma_refine 34 = .ok (.iastore, 1) := by decide +kernel
theorem d_Ma_refine_35 : decode c_Ma_refine 35 = .ok (.goto 13, 3) := by decide +kernel
theorem d_Ma_refine_38 : decode c_Ma_refine 38 = .ok (.aload_n 0, 1) := by decide +kernel
theorem d_Ma_refine_39 : decode c_Ma_refine 39 = .ok (.getfield 29, 3) := by decide +kernel
theorem d_Ma_refine_42 : decode c_Ma_refine 42 = .ok (.iload_n 2, 1) := by decide +kernel
theorem d_Ma_refine_43 : decode c_Ma_refine 43 = .ok (.iload_n 1, 1) := by decide +kernel
theorem d_Ma_refine_44 : decode c_Ma_refine 44 = .ok (.iastore, 1) := by decide +kernel
theorem d_Ma_refine_45 : decode c_Ma_refine 45 = .ok (.iinc 1 1, 3) := by decide +kernel
theorem d_Ma_refine_48 : decode c_Ma_refine 48 = .ok (.iinc 2 1, 3) := by decide +kernel
theorem d_Ma_refine_51 : decode c_Ma_refine 51 = .ok (.goto (-47), 3) := by decide +kernel
theorem d_Ma_refine_54 : decode c_Ma_refine 54 = .ok (.aload_n 0, 1) := by decide +kernel
theorem d_Ma_refine_55 : decode c_Ma_refine 55 = .ok (.getfield 29, 3) := by decide +kernel
theorem d_Ma_refine_58 : decode c_Ma_refine 58 = .ok (.iconst 0, 1) := by decide +kernel
theorem d_Ma_refine_59 : decode c_Ma_refine 59 = .ok (.aload_n 0, 1) := by decide +kernel
theorem d_Ma_refine_60 : decode c_Ma_refine 60 = .ok (.getfield 26, 3) := by decide +kernel
theorem d_Ma_refine_63 : decode c_Ma_refine 63 = .ok (.iconst 0, 1) := by decide +kernel
theorem d_Ma_refine_64 : decode c_Ma_refine 64 = .ok (.aload_n 0, 1) := by decide +kernel
theorem d_Ma_refine_65 : decode c_Ma_refine 65 = .ok (.getfield 36, 3) := by decide +kernel
theorem d_Ma_refine_68 : decode c_Ma_refine 68 = .ok (.invokestatic 74, 3) := by decide +kernel
theorem d_Ma_refine_71 : decode c_Ma_refine 71 = .ok (.iload_n 1, 1) := by decide +kernel
theorem d_Ma_refine_72 : decode c_Ma_refine 72 = .ok (.ireturn, 1) := by decide +kernel
theorem d_Ma_firstLike_0 : decode c_Ma_firstLike 0 = .ok (.iconst 0, 1) := by decide +kernel
theorem d_Ma_firstLike_1 : decode c_Ma_firstLike 1 = .ok (.istore_n 2, 1) := by decide +kernel
theorem d_Ma_firstLike_2 : decode c_Ma_firstLike 2 = .ok (.iload_n 2, 1) := by decide +kernel
theorem d_Ma_firstLike_3 : decode c_Ma_firstLike 3 = .ok (.iload_n 1, 1) := by decide +kernel
theorem d_Ma_firstLike_4 : decode c_Ma_firstLike 4 = .ok (.if_icmp .ge 20, 3) := by decide +kernel
theorem d_Ma_firstLike_7 : decode c_Ma_firstLike 7 = .ok (.aload_n 0, 1) := by decide +kernel
theorem d_Ma_firstLike_8 : decode c_Ma_firstLike 8 = .ok (.iload_n 2, 1) := by decide +kernel
theorem d_Ma_firstLike_9 : decode c_Ma_firstLike 9 = .ok (.iload_n 1, 1) := by decide +kernel
theorem d_Ma_firstLike_10 : decode c_Ma_firstLike 10 = .ok (.invokevirtual 87, 3) := by decide +kernel
theorem d_Ma_firstLike_13 : decode c_Ma_firstLike 13 = .ok (.ifCond .eq 5, 3) := by decide +kernel
theorem d_Ma_firstLike_16 : decode c_Ma_firstLike 16 = .ok (.iload_n 2, 1) := by decide +kernel
theorem d_Ma_firstLike_17 : decode c_Ma_firstLike 17 = .ok (.ireturn, 1) := by decide +kernel
theorem d_Ma_firstLike_18 : decode c_Ma_firstLike 18 = .ok (.iinc 2 1, 3) := by decide +kernel
theorem d_Ma_firstLike_21 : decode c_Ma_firstLike 21 = .ok (.goto (-19), 3) := by decide +kernel
theorem d_Ma_firstLike_24 : decode c_Ma_firstLike 24 = .ok (.iload_n 1, 1) := by decide +kernel
theorem d_Ma_firstLike_25 : decode c_Ma_firstLike 25 = .ok (.ireturn, 1) := by decide +kernel
theorem d_Ma_alike_0 : decode c_Ma_alike 0 = .ok (.aload_n 0, 1) := by decide +kernel
theorem d_Ma_alike_1 : decode c_Ma_alike 1 = .ok (.getfield 26, 3) := by decide +kernel
theorem d_Ma_alike_4 : decode c_Ma_alike 4 = .ok (.iload_n 1, 1) := by decide +kernel
theorem d_Ma_alike_5 : decode c_Ma_alike 5 = .ok (.iaload, 1) := by decide +kernel
theorem d_Ma_alike_6 : decode c_Ma_alike 6 = .ok (.aload_n 0, 1) := by decide +kernel
theorem d_Ma_alike_7 : decode c_Ma_alike 7 = .ok (.getfield 26, 3) := by decide +kernel
theorem d_Ma_alike_10 : decode c_Ma_alike 10 = .ok (.iload_n 2, 1) := by decide +kernel
theorem d_Ma_alike_11 : decode c_Ma_alike 11 = .ok (.iaload, 1) := by decide +kernel
theorem d_Ma_alike_12 : decode c_Ma_alike 12 = .ok (.if_icmp .ne 7, 3) := by decide +kernel
theorem d_Ma_alike_15 : decode c_Ma_alike 15 = .ok (.iconst 1, 1) := by decide +kernel
theorem d_Ma_alike_16 : decode c_Ma_alike 16 = .ok (.goto 4, 3) := by decide +kernel
theorem d_Ma_alike_19 : decode c_Ma_alike 19 = .ok (.iconst 0, 1) := by decide +kernel
theorem d_Ma_alike_20 : decode c_Ma_alike 20 = .ok (.istore_n 3, 1) := by decide +kernel
theorem d_Ma_alike_21 : decode c_Ma_alike 21 = .ok (.iconst 0, 1) := by decide +kernel
theorem d_Ma_alike_22 : decode c_Ma_alike 22 = .ok (.istore 4, 2) := by decide +kernel
theorem d_Ma_alike_24 : decode c_Ma_alike 24 = .ok (.iload 4, 2) := by decide +kernel
theorem d_Ma_alike_26 : decode c_Ma_alike 26 = .ok (.iconst 4, 1) := by decide +kernel
theorem d_Ma_alike_27 : decode c_Ma_alike 27 = .ok (.if_icmp .ge 62, 3) := by decide +kernel
theorem d_Ma_alike_30 : decode c_Ma_alike 30 = .ok (.iload_n 3, 1) := by decide +kernel
theorem d_Ma_alike_31 : decode c_Ma_alike 31 = .ok (.ifCond .eq 58, 3) := by decide +kernel
theorem d_Ma_alike_34 : decode c_Ma_alike 34 = .ok (.aload_n 0, 1) := by decide +kernel
theorem d_Ma_alike_35 : decode c_Ma_alike 35 = .ok (.getfield 20, 3) := by decide +kernel
theorem d_Ma_alike_38 : decode c_Ma_alike 38 = .ok (.iload_n 1, 1) := by decide +kernel
theorem d_Ma_alike_39 : decode c_Ma_alike 39 = .ok (.iconst 4, 1) := by decide +kernel
theorem d_Ma_alike_40 : decode c_Ma_alike 40 = .ok (.imul, 1) := by decide +kernel
theorem d_Ma_alike_41 : decode c_Ma_alike 41 = .ok (.iload 4, 2) := by decide +kernel
theorem d_Ma_alike_43 : decode c_Ma_alike 43 = .ok (.iadd, 1) := by decide +kernel
theorem d_Ma_alike_44 : decode c_Ma_alike 44 = .ok (.iaload, 1) := by decide +kernel
theorem d_Ma_alike_45 : decode c_Ma_alike 45 = .ok (.istore 5, 2) := by decide +kernel
theorem d_Ma_alike_47 : decode c_Ma_alike 47 = .ok (.aload_n 0, 1) := by decide +kernel
theorem d_Ma_alike_48 : decode c_Ma_alike 48 = .ok (.getfield 20, 3) := by decide +kernel
theorem d_Ma_alike_51 : decode c_Ma_alike 51 = .ok (.iload_n 2, 1) := by decide +kernel
theorem d_Ma_alike_52 : decode c_Ma_alike 52 = .ok (.iconst 4, 1) := by decide +kernel
theorem d_Ma_alike_53 : decode c_Ma_alike 53 = .ok (.imul, 1) := by decide +kernel
theorem d_Ma_alike_54 : decode c_Ma_alike 54 = .ok (.iload 4, 2) := by decide +kernel
theorem d_Ma_alike_56 : decode c_Ma_alike 56 = .ok (.iadd, 1) := by decide +kernel
theorem d_Ma_alike_57 : decode c_Ma_alike 57 = .ok (.iaload, 1) := by decide +kernel
theorem d_Ma_alike_58 : decode c_Ma_alike 58 = .ok (.istore 6, 2) := by decide +kernel
theorem d_Ma_alike_60 : decode c_Ma_alike 60 = .ok (.aload_n 0, 1) := by decide +kernel
theorem d_Ma_alike_61 : decode c_Ma_alike 61 = .ok (.getfield 26, 3) := by decide +kernel
theorem d_Ma_alike_64 : decode c_Ma_alike 64 = .ok (.iload 5, 2) := by decide +kernel
theorem d_Ma_alike_66 : decode c_Ma_alike 66 = .ok (.iaload, 1) := by decide +kernel
theorem d_Ma_alike_67 : decode c_Ma_alike 67 = .ok (.aload_n 0, 1) := by decide +kernel
theorem d_Ma_alike_68 : decode c_Ma_alike 68 = .ok (.getfield 26, 3) := by decide +kernel
theorem d_Ma_alike_71 : decode c_Ma_alike 71 = .ok (.iload 6, 2) := by decide +kernel
theorem d_Ma_alike_73 : decode c_Ma_alike 73 = .ok (.iaload, 1) := by decide +kernel
theorem d_Ma_alike_74 : decode c_Ma_alike 74 = .ok (.if_icmp .ne 7, 3) := by decide +kernel
theorem d_Ma_alike_77 : decode c_Ma_alike 77 = .ok (.iconst 1, 1) := by decide +kernel
theorem d_Ma_alike_78 : decode c_Ma_alike 78 = .ok (.goto 4, 3) := by decide +kernel
theorem d_Ma_alike_81 : decode c_Ma_alike 81 = .ok (.iconst 0, 1) := by decide +kernel
theorem d_Ma_alike_82 : decode c_Ma_alike 82 = .ok (.istore_n 3, 1) := by decide +kernel
theorem d_Ma_alike_83 : decode c_Ma_alike 83 = .ok (.iinc 4 1, 3) := by decide +kernel
theorem d_Ma_alike_86 : decode c_Ma_alike 86 = .ok (.goto (-62), 3) := by decide +kernel
theorem d_Ma_alike_89 : decode c_Ma_alike 89 = .ok (.iload_n 3, 1) := by decide +kernel
theorem d_Ma_alike_90 : decode c_Ma_alike 90 = .ok (.ireturn, 1) := by decide +kernel
theorem d_Ws_turn_0 : decode c_Ws_turn 0 = .ok (.iload_n 1, 1) := by decide +kernel
theorem d_Ws_turn_1 : decode c_Ws_turn 1 = .ok (.invokestatic 85, 3) := by decide +kernel
theorem d_Ws_turn_4 : decode c_Ws_turn 4 = .ok (.iload_n 2, 1) := by decide +kernel
theorem d_Ws_turn_5 : decode c_Ws_turn 5 = .ok (.invokestatic 85, 3) := by decide +kernel
theorem d_Ws_turn_8 : decode c_Ws_turn 8 = .ok (.aload_n 0, 1) := by decide +kernel
theorem d_Ws_turn_9 : decode c_Ws_turn 9 = .ok (.getfield 55, 3) := by decide +kernel
theorem d_Ws_turn_12 : decode c_Ws_turn 12 = .ok (.aload_n 0, 1) := by decide +kernel
theorem d_Ws_turn_13 : decode c_Ws_turn 13 = .ok (.getfield 18, 3) := by decide +kernel
theorem d_Ws_turn_16 : decode c_Ws_turn 16 = .ok (.iload_n 1, 1) := by decide +kernel
theorem d_Ws_turn_17 : decode c_Ws_turn 17 = .ok (.aaload, 1) := by decide +kernel
theorem d_Ws_turn_18 : decode c_Ws_turn 18 = .ok (.invokevirtual 146, 3) := by decide +kernel
theorem d_Ws_turn_21 : decode c_Ws_turn 21 = .ok (.aload_n 0, 1) := by decide +kernel
theorem d_Ws_turn_22 : decode c_Ws_turn 22 = .ok (.iload_n 2, 1) := by decide +kernel
theorem d_Ws_turn_23 : decode c_Ws_turn 23 = .ok (.invokevirtual 99, 3) := by decide +kernel
theorem d_Ws_turn_26 : decode c_Ws_turn 26 = .ok (.return_, 1) := by decide +kernel
theorem d_Ex_becomeReverse_0 : decode c_Ex_becomeReverse 0 = .ok (.aload_n 0, 1) := by decide +kernel
theorem d_Ex_becomeReverse_1 : decode c_Ex_becomeReverse 1 = .ok (.invokevirtual 47, 3) := by decide +kernel
theorem d_Ex_becomeReverse_4 : decode c_Ex_becomeReverse 4 = .ok (.iconst 0, 1) := by decide +kernel
theorem d_Ex_becomeReverse_5 : decode c_Ex_becomeReverse 5 = .ok (.istore_n 2, 1) := by decide +kernel
theorem d_Ex_becomeReverse_6 : decode c_Ex_becomeReverse 6 = .ok (.iload_n 2, 1) := by decide +kernel
theorem d_Ex_becomeReverse_7 : decode c_Ex_becomeReverse 7 = .ok (.bipush 8, 2) := by decide +kernel
theorem d_Ex_becomeReverse_9 : decode c_Ex_becomeReverse 9 = .ok (.if_icmp .ge 22, 3) := by decide +kernel
theorem d_Ex_becomeReverse_12 : decode c_Ex_becomeReverse 12 = .ok (.aload_n 0, 1) := by decide +kernel
theorem d_Ex_becomeReverse_13 : decode c_Ex_becomeReverse 13 = .ok (.aload_n 1, 1) := by decide +kernel
theorem d_Ex_becomeReverse_14 : decode c_Ex_becomeReverse 14 = .ok (.getfield 11, 3) := by decide +kernel
theorem d_Ex_becomeReverse_17 : decode c_Ex_becomeReverse 17 = .ok (.iload_n 2, 1) := by decide +kernel
theorem d_Ex_becomeReverse_18 : decode c_Ex_becomeReverse 18 = .ok (.iaload, 1) := by decide +kernel
theorem d_Ex_becomeReverse_19 : decode c_Ex_becomeReverse 19 = .ok (.iconst 1, 1) := by decide +kernel
theorem d_Ex_becomeReverse_20 : decode c_Ex_becomeReverse 20 = .ok (.iload_n 2, 1) := by decide +kernel
theorem d_Ex_becomeReverse_21 : decode c_Ex_becomeReverse 21 = .ok (.ishl, 1) := by decide +kernel
theorem d_Ex_becomeReverse_22 : decode c_Ex_becomeReverse 22 = .ok (.invokevirtual 50, 3) := by decide +kernel
theorem d_Ex_becomeReverse_25 : decode c_Ex_becomeReverse 25 = .ok (.iinc 2 1, 3) := by decide +kernel
theorem d_Ex_becomeReverse_28 : decode c_Ex_becomeReverse 28 = .ok (.goto (-22), 3) := by decide +kernel
theorem d_Ex_becomeReverse_31 : decode c_Ex_becomeReverse 31 = .ok (.aload_n 0, 1) := by decide +kernel
theorem d_Ex_becomeReverse_32 : decode c_Ex_becomeReverse 32 = .ok (.getfield 11, 3) := by decide +kernel
theorem d_Ex_becomeReverse_35 : decode c_Ex_becomeReverse 35 = .ok (.bipush 8, 2) := by decide +kernel
theorem d_Ex_becomeReverse_37 : decode c_Ex_becomeReverse 37 = .ok (.aload_n 1, 1) := by decide +kernel
theorem d_Ex_becomeReverse_38 : decode c_Ex_becomeReverse 38 = .ok (.getfield 18, 3) := by decide +kernel
theorem d_Ex_becomeReverse_41 : decode c_Ex_becomeReverse 41 = .ok (.sipush (-257), 3) := by decide +kernel
theorem d_Ex_becomeReverse_44 : decode c_Ex_becomeReverse 44 = .ok (.iand, 1) := by decide +kernel
theorem d_Ex_becomeReverse_45 : decode c_Ex_becomeReverse 45 = .ok (.iastore, 1) := by decide +kernel
theorem d_Ex_becomeReverse_46 : decode c_Ex_becomeReverse 46 = .ok (.aload_n 0, 1) := by decide +kernel
theorem d_Ex_becomeReverse_47 : decode c_Ex_becomeReverse 47 = .ok (.aload_n 1, 1) := by decide +kernel
theorem d_Ex_becomeReverse_48 : decode c_Ex_becomeReverse 48 = .ok (.getfield 11, 3) := by decide +kernel
theorem d_Ex_becomeReverse_51 : decode c_Ex_becomeReverse 51 = .ok (.bipush 8, 2) := by decide +kernel
theorem d_Ex_becomeReverse_53 : decode c_Ex_becomeReverse 53 = .ok (.iaload, 1) := by decide +kernel
theorem d_Ex_becomeReverse_54 : decode c_Ex_becomeReverse 54 = .ok (.aload_n 1, 1) := by decide +kernel
theorem d_Ex_becomeReverse_55 : decode c_Ex_becomeReverse 55 = .ok (.getfield 18, 3) := by decide +kernel
theorem d_Ex_becomeReverse_58 : decode c_Ex_becomeReverse 58 = .ok (.sipush 256, 3) := by decide +kernel
theorem d_Ex_becomeReverse_61 : decode c_Ex_becomeReverse 61 = .ok (.iand, 1) := by decide +kernel
theorem d_Ex_becomeReverse_62 : decode c_Ex_becomeReverse 62 = .ok (.ior, 1) := by decide +kernel
theorem d_Ex_becomeReverse_63 : decode c_Ex_becomeReverse 63 = .ok (.putfield 18, 3) := by decide +kernel
theorem d_Ex_becomeReverse_66 : decode c_Ex_becomeReverse 66 = .ok (.aload_n 1, 1) := by decide +kernel
theorem d_Ex_becomeReverse_67 : decode c_Ex_becomeReverse 67 = .ok (.getfield 15, 3) := by decide +kernel
theorem d_Ex_becomeReverse_70 : decode c_Ex_becomeReverse 70 = .ok (.iconst 0, 1) := by decide +kernel
theorem d_Ex_becomeReverse_71 : decode c_Ex_becomeReverse 71 = .ok (.aload_n 0, 1) := by decide +kernel
theorem d_Ex_becomeReverse_72 : decode c_Ex_becomeReverse 72 = .ok (.getfield 15, 3) := by decide +kernel
theorem d_Ex_becomeReverse_75 : decode c_Ex_becomeReverse 75 = .ok (.iconst 0, 1) := by decide +kernel
theorem d_Ex_becomeReverse_76 : decode c_Ex_becomeReverse 76 = .ok (.iconst 4, 1) := by decide +kernel
theorem d_Ex_becomeReverse_77 : decode c_Ex_becomeReverse 77 = .ok (.invokestatic 54, 3) := by decide +kernel
theorem d_Ex_becomeReverse_80 : decode c_Ex_becomeReverse 80 = .ok (.aload_n 0, 1) := by decide +kernel
theorem d_Ex_becomeReverse_81 : decode c_Ex_becomeReverse 81 = .ok (.aload_n 1, 1) := by decide +kernel
theorem d_Ex_becomeReverse_82 : decode c_Ex_becomeReverse 82 = .ok (.getfield 22, 3) := by decide +kernel
theorem d_Ex_becomeReverse_85 : decode c_Ex_becomeReverse 85 = .ok (.putfield 22, 3) := by decide +kernel
theorem d_Ex_becomeReverse_88 : decode c_Ex_becomeReverse 88 = .ok (.return_, 1) := by decide +kernel
theorem d_Ws_letter_0 : decode c_Ws_letter 0 = .ok (.iload_n 1, 1) := by decide +kernel
theorem d_Ws_letter_1 : decode c_Ws_letter 1 = .ok (.ifCond .lt 14, 3) := by decide +kernel
theorem d_Ws_letter_4 : decode c_Ws_letter 4 = .ok (.iload_n 1, 1) := by decide +kernel
theorem d_Ws_letter_5 : decode c_Ws_letter 5 = .ok (.aload_n 0, 1) := by decide +kernel
theorem d_Ws_letter_6 : decode c_Ws_letter 6 = .ok (.getfield 51, 3) := by decide +kernel
theorem d_Ws_letter_9 : decode c_Ws_letter 9 = .ok (.getfield 122, 3) := by decide +kernel
theorem d_Ws_letter_12 : decode c_Ws_letter 12 = .ok (.if_icmp .lt 13, 3) := by decide +kernel
theorem d_Ws_letter_15 : decode c_Ws_letter 15 = .ok (.new 149, 3) := by decide +kernel
theorem d_Ws_letter_18 : decode c_Ws_letter 18 = .ok (.dup, 1) := by decide +kernel
theorem d_Ws_letter_19 : decode c_Ws_letter 19 = .ok (.ldc 151, 2) := by decide +kernel
theorem d_Ws_letter_21 : decode c_Ws_letter 21 = .ok (.invokespecial 153, 3) := by decide +kernel
theorem d_Ws_letter_24 : decode c_Ws_letter 24 = .ok (.athrow, 1) := by decide +kernel
theorem d_Ws_letter_25 : decode c_Ws_letter 25 = .ok (.aload_n 0, 1) := by decide +kernel
theorem d_Ws_letter_26 : decode c_Ws_letter 26 = .ok (.getfield 51, 3) := by decide +kernel
theorem d_Ws_letter_29 : decode c_Ws_letter 29 = .ok (.getfield 154, 3) := by decide +kernel
theorem d_Ws_letter_32 : decode c_Ws_letter 32 = .ok (.iload_n 1, 1) := by decide +kernel
theorem d_Ws_letter_33 : decode c_Ws_letter 33 = .ok (.iaload, 1) := by decide +kernel
theorem d_Ws_letter_34 : decode c_Ws_letter 34 = .ok (.ireturn, 1) := by decide +kernel
