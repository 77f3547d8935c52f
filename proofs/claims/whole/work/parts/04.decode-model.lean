theorem d_Md_init_0 : decode c_Md_init 0 = .ok (.aload_n 0, 1) := by decide +kernel
theorem d_Md_init_1 : decode c_Md_init 1 = .ok (.invokespecial 3, 3) := by decide +kernel
theorem d_Md_init_4 : decode c_Md_init 4 = .ok (.aload_n 0, 1) := by decide +kernel
theorem d_Md_init_5 : decode c_Md_init 5 = .ok (.bipush 80, 2) := by decide +kernel
theorem d_Md_init_7 : decode c_Md_init 7 = .ok (.newarray .int, 2) := by decide +kernel
theorem d_Md_init_9 : decode c_Md_init 9 = .ok (.putfield 9, 3) := by decide +kernel
theorem d_Md_init_12 : decode c_Md_init 12 = .ok (.aload_n 0, 1) := by decide +kernel
theorem d_Md_init_13 : decode c_Md_init 13 = .ok (.iconst (-1), 1) := by decide +kernel
theorem d_Md_init_14 : decode c_Md_init 14 = .ok (.putfield 13, 3) := by decide +kernel
theorem d_Md_init_17 : decode c_Md_init 17 = .ok (.aload_n 0, 1) := by decide +kernel
theorem d_Md_init_18 : decode c_Md_init 18 = .ok (.iconst 4, 1) := by decide +kernel
theorem d_Md_init_19 : decode c_Md_init 19 = .ok (.newarray .int, 2) := by decide +kernel
theorem d_Md_init_21 : decode c_Md_init 21 = .ok (.putfield 17, 3) := by decide +kernel
theorem d_Md_init_24 : decode c_Md_init 24 = .ok (.aload_n 0, 1) := by decide +kernel
theorem d_Md_init_25 : decode c_Md_init 25 = .ok (.bipush 32, 2) := by decide +kernel
theorem d_Md_init_27 : decode c_Md_init 27 = .ok (.newarray .int, 2) := by decide +kernel
theorem d_Md_init_29 : decode c_Md_init 29 = .ok (.putfield 20, 3) := by decide +kernel
theorem d_Md_init_32 : decode c_Md_init 32 = .ok (.aload_n 0, 1) := by decide +kernel
theorem d_Md_init_33 : decode c_Md_init 33 = .ok (.iconst 4, 1) := by decide +kernel
theorem d_Md_init_34 : decode c_Md_init 34 = .ok (.newarray .int, 2) := by decide +kernel
theorem d_Md_init_36 : decode c_Md_init 36 = .ok (.putfield 23, 3) := by decide +kernel
theorem d_Md_init_39 : decode c_Md_init 39 = .ok (.aload_n 0, 1) := by decide +kernel
theorem d_Md_init_40 : decode c_Md_init 40 = .ok (.iconst 4, 1) := by decide +kernel
theorem d_Md_init_41 : decode c_Md_init 41 = .ok (.newarray .int, 2) := by decide +kernel
theorem d_Md_init_43 : decode c_Md_init 43 = .ok (.putfield 26, 3) := by decide +kernel
theorem d_Md_init_46 : decode c_Md_init 46 = .ok (.aload_n 0, 1) := by decide +kernel
theorem d_Md_init_47 : decode c_Md_init 47 = .ok (.bipush 32, 2) := by decide +kernel
theorem d_Md_init_49 : decode c_Md_init 49 = .ok (.newarray .int, 2) := by decide +kernel
theorem d_Md_init_51 : decode c_Md_init 51 = .ok (.putfield 29, 3) := by decide +kernel
theorem d_Md_init_54 : decode c_Md_init 54 = .ok (.aload_n 0, 1) := by decide +kernel
theorem d_Md_init_55 : decode c_Md_init 55 = .ok (.iconst 4, 1) := by decide +kernel
theorem d_Md_init_56 : decode c_Md_init 56 = .ok (.newarray .boolean, 2) := by decide +kernel
theorem d_Md_init_58 : decode c_Md_init 58 = .ok (.putfield 32, 3) := by decide +kernel
theorem d_Md_init_61 : decode c_Md_init 61 = .ok (.aload_n 0, 1) := by decide +kernel
theorem d_Md_init_62 : decode c_Md_init 62 = .ok (.sipush 2400, 3) := by decide +kernel
theorem d_Md_init_65 : decode c_Md_init 65 = .ok (.newarray .int, 2) := by decide +kernel
theorem d_Md_init_67 : decode c_Md_init 67 = .ok (.putfield 36, 3) := by decide +kernel
theorem d_Md_init_70 : decode c_Md_init 70 = .ok (.aload_n 0, 1) := by decide +kernel
theorem d_Md_init_71 : decode c_Md_init 71 = .ok (.sipush 400, 3) := by decide +kernel
theorem d_Md_init_74 : decode c_Md_init 74 = .ok (.newarray .boolean, 2) := by decide +kernel
theorem d_Md_init_76 : decode c_Md_init 76 = .ok (.putfield 39, 3) := by decide +kernel
theorem d_Md_init_79 : decode c_Md_init 79 = .ok (.aload_n 0, 1) := by decide +kernel
theorem d_Md_init_80 : decode c_Md_init 80 = .ok (.sipush 400, 3) := by decide +kernel
theorem d_Md_init_83 : decode c_Md_init 83 = .ok (.newarray .int, 2) := by decide +kernel
theorem d_Md_init_85 : decode c_Md_init 85 = .ok (.putfield 42, 3) := by decide +kernel
theorem d_Md_init_88 : decode c_Md_init 88 = .ok (.aload_n 0, 1) := by decide +kernel
theorem d_Md_init_89 : decode c_Md_init 89 = .ok (.sipush 400, 3) := by decide +kernel
theorem d_Md_init_92 : decode c_Md_init 92 = .ok (.newarray .int, 2) := by decide +kernel
theorem d_Md_init_94 : decode c_Md_init 94 = .ok (.putfield 45, 3) := by decide +kernel
theorem d_Md_init_97 : decode c_Md_init 97 = .ok (.aload_n 0, 1) := by decide +kernel
theorem d_Md_init_98 : decode c_Md_init 98 = .ok (.bipush 8, 2) := by decide +kernel
theorem d_Md_init_100 : decode c_Md_init 100 = .ok (.newarray .int, 2) := by decide +kernel
theorem d_Md_init_102 : decode c_Md_init 102 = .ok (.putfield 48, 3) := by decide +kernel
theorem d_Md_init_105 : decode c_Md_init 105 = .ok (.aload_n 0, 1) := by decide +kernel
theorem d_Md_init_106 : decode c_Md_init 106 = .ok (.bipush 8, 2) := by decide +kernel
theorem d_Md_init_108 : decode c_Md_init 108 = .ok (.newarray .int, 2) := by decide +kernel
theorem d_Md_init_110 : decode c_Md_init 110 = .ok (.putfield 51, 3) := by decide +kernel
theorem d_Md_init_113 : decode c_Md_init 113 = .ok (.aload_n 0, 1) := by decide +kernel
theorem d_Md_init_114 : decode c_Md_init 114 = .ok (.ldc 54, 2) := by decide +kernel
theorem d_Md_init_116 : decode c_Md_init 116 = .ok (.newarray .int, 2) := by decide +kernel
theorem d_Md_init_118 : decode c_Md_init 118 = .ok (.putfield 55, 3) := by decide +kernel
theorem d_Md_init_121 : decode c_Md_init 121 = .ok (.aload_n 0, 1) := by decide +kernel
theorem d_Md_init_122 : decode c_Md_init 122 = .ok (.ldc 54, 2) := by decide +kernel
theorem d_Md_init_124 : decode c_Md_init 124 = .ok (.newarray .int, 2) := by decide +kernel
theorem d_Md_init_126 : decode c_Md_init 126 = .ok (.putfield 58, 3) := by decide +kernel
theorem d_Md_init_129 : decode c_Md_init 129 = .ok (.aload_n 0, 1) := by decide +kernel
theorem d_Md_init_130 : decode c_Md_init 130 = .ok (.ldc 54, 2) := by decide +kernel
theorem d_Md_init_132 : decode c_Md_init 132 = .ok (.newarray .int, 2) := by decide +kernel
theorem d_Md_init_134 : decode c_Md_init 134 = .ok (.putfield 61, 3) := by decide +kernel
theorem d_Md_init_137 : decode c_Md_init 137 = .ok (.aload_n 0, 1) := by decide +kernel
theorem d_Md_init_138 : decode c_Md_init 138 = .ok (.ldc 54, 2) := by decide +kernel
theorem d_Md_init_140 : decode c_Md_init 140 = .ok (.newarray .boolean, 2) := by decide +kernel
theorem d_Md_init_142 : decode c_Md_init 142 = .ok (.putfield 64, 3) := by decide +kernel
theorem d_Md_init_145 : decode c_Md_init 145 = .ok (.aload_n 0, 1) := by decide +kernel
theorem d_Md_init_146 : decode c_Md_init 146 = .ok (.sipush 7967, 3) := by decide +kernel
theorem d_Md_init_149 : decode c_Md_init 149 = .ok (.newarray .long, 2) := by decide +kernel
theorem d_Md_init_151 : decode c_Md_init 151 = .ok (.putfield 67, 3) := by decide +kernel
theorem d_Md_init_154 : decode c_Md_init 154 = .ok (.aload_n 0, 1) := by decide +kernel
theorem d_Md_init_155 : decode c_Md_init 155 = .ok (.sipush 257, 3) := by decide +kernel
theorem d_Md_init_158 : decode c_Md_init 158 = .ok (.newarray .int, 2) := by decide +kernel
theorem d_Md_init_160 : decode c_Md_init 160 = .ok (.putfield 71, 3) := by decide +kernel
theorem d_Md_init_163 : decode c_Md_init 163 = .ok (.aload_n 0, 1) := by decide +kernel
theorem d_Md_init_164 : decode c_Md_init 164 = .ok (.sipush 257, 3) := by decide +kernel
theorem d_Md_init_167 : decode c_Md_init 167 = .ok (.newarray .int, 2) := by decide +kernel
theorem d_Md_init_169 : decode c_Md_init 169 = .ok (.putfield 74, 3) := by decide +kernel
theorem d_Md_init_172 : decode c_Md_init 172 = .ok (.aload_n 0, 1) := by decide +kernel
theorem d_Md_init_173 : decode c_Md_init 173 = .ok (.bipush 9, 2) := by decide +kernel
theorem d_Md_init_175 : decode c_Md_init 175 = .ok (.newarray .int, 2) := by decide +kernel
theorem d_Md_init_177 : decode c_Md_init 177 = .ok (.putfield 77, 3) := by decide +kernel
theorem d_Md_init_180 : decode c_Md_init 180 = .ok (.aload_n 0, 1) := by decide +kernel
theorem d_Md_init_181 : decode c_Md_init 181 = .ok (.bipush 9, 2) := by decide +kernel
theorem d_Md_init_183 : decode c_Md_init 183 = .ok (.newarray .int, 2) := by decide +kernel
theorem d_Md_init_185 : decode c_Md_init 185 = .ok (.putfield 80, 3) := by decide +kernel
theorem d_Md_init_188 : decode c_Md_init 188 = .ok (.return_, 1) := by decide +kernel
theorem d_Md_thrown_0 : decode c_Md_thrown 0 = .ok (.aload_n 0, 1) := by decide +kernel
theorem d_Md_thrown_1 : decode c_Md_thrown 1 = .ok (.getfield 83, 3) := by decide +kernel
theorem d_Md_thrown_4 : decode c_Md_thrown 4 = .ok (.ireturn, 1) := by decide +kernel
theorem d_Md_feed_0 : decode c_Md_feed 0 = .ok (.aload_n 0, 1) := by decide +kernel
theorem d_Md_feed_1 : decode c_Md_feed 1 = .ok (.iload_n 3, 1) := by decide +kernel
theorem d_Md_feed_2 : decode c_Md_feed 2 = .ok (.iconst 1, 1) := by decide +kernel
theorem d_Md_feed_3 : decode c_Md_feed 3 = .ok (.bipush 8, 2) := by decide +kernel
theorem d_Md_feed_5 : decode c_Md_feed 5 = .ok (.invokestatic 86, 3) := by decide +kernel
theorem d_Md_feed_8 : decode c_Md_feed 8 = .ok (.ifCond .ne 7, 3) := by decide +kernel
theorem d_Md_feed_11 : decode c_Md_feed 11 = .ok (.iconst 1, 1) := by decide +kernel
theorem d_Md_feed_12 : decode c_Md_feed 12 = .ok (.goto 19, 3) := by decide +kernel
theorem d_Md_feed_15 : decode c_Md_feed 15 = .ok (.aload_n 0, 1) := by decide +kernel
theorem d_Md_feed_16 : decode c_Md_feed 16 = .ok (.getfield 90, 3) := by decide +kernel
theorem d_Md_feed_19 : decode c_Md_feed 19 = .ok (.iload_n 3, 1) := by decide +kernel
theorem d_Md_feed_20 : decode c_Md_feed 20 = .ok (.iadd, 1) := by decide +kernel
theorem d_Md_feed_21 : decode c_Md_feed 21 = .ok (.bipush 80, 2) := by decide +kernel
theorem d_Md_feed_23 : decode c_Md_feed 23 = .ok (.if_icmp .le 7, 3) := by decide +kernel
theorem d_Md_feed_26 : decode c_Md_feed 26 = .ok (.iconst 2, 1) := by decide +kernel
theorem d_Md_feed_27 : decode c_Md_feed 27 = .ok (.goto 4, 3) := by decide +kernel
theorem d_Md_feed_30 : decode c_Md_feed 30 = .ok (.iconst 0, 1) := by decide +kernel
theorem d_Md_feed_31 : decode c_Md_feed 31 = .ok (.putfield 83, 3) := by decide +kernel
theorem d_Md_feed_34 : decode c_Md_feed 34 = .ok (.aload_n 0, 1) := by decide +kernel
theorem d_Md_feed_35 : decode c_Md_feed 35 = .ok (.getfield 83, 3) := by decide +kernel
theorem d_Md_feed_38 : decode c_Md_feed 38 = .ok (.ifCond .le 5, 3) := by decide +kernel
theorem d_Md_feed_41 : decode c_Md_feed 41 = .ok (.iconst 0, 1) := by decide +kernel
theorem d_Md_feed_42 : decode c_Md_feed 42 = .ok (.ireturn, 1) := by decide +kernel
theorem d_Md_feed_43 : decode c_Md_feed 43 = .ok (.iload_n 3, 1) := by decide +kernel
theorem d_Md_feed_44 : decode c_Md_feed 44 = .ok (.iconst 1, 1) := by decide +kernel
theorem d_Md_feed_45 : decode c_Md_feed 45 = .ok (.isub, 1) := by decide +kernel
theorem d_Md_feed_46 : decode c_Md_feed 46 = .ok (.istore 4, 2) := by decide +kernel
theorem d_Md_feed_48 : decode c_Md_feed 48 = .ok (.iload 4, 2) := by decide +kernel
theorem d_Md_feed_50 : decode c_Md_feed 50 = .ok (.ifCond .lt 40, 3) := by decide +kernel
theorem d_Md_feed_53 : decode c_Md_feed 53 = .ok (.aload_n 0, 1) := by decide +kernel
theorem d_Md_feed_54 : decode c_Md_feed 54 = .ok (.getfield 9, 3) := by decide +kernel
theorem d_Md_feed_57 : decode c_Md_feed 57 = .ok (.aload_n 0, 1) := by decide +kernel
theorem d_Md_feed_58 : decode c_Md_feed 58 = .ok (.getfield 90, 3) := by decide +kernel
theorem d_Md_feed_61 : decode c_Md_feed 61 = .ok (.lload_n 1, 1) := by decide +kernel
theorem d_Md_feed_62 : decode c_Md_feed 62 = .ok (.bipush 8, 2) := by decide +kernel
theorem d_Md_feed_64 : decode c_Md_feed 64 = .ok (.iload 4, 2) := by decide +kernel
theorem d_Md_feed_66 : decode c_Md_feed 66 = .ok (.imul, 1) := by decide +kernel
theorem d_Md_feed_67 : decode c_Md_feed 67 = .ok (.lshr, 1) := by decide +kernel
theorem d_Md_feed_68 : decode c_Md_feed 68 = .ok (.l2i, 1) := by decide +kernel
theorem d_Md_feed_69 : decode c_Md_feed 69 = .ok (.sipush 255, 3) := by decide +kernel
theorem d_Md_feed_72 : decode c_Md_feed 72 = .ok (.iand, 1) := by decide +kernel
theorem d_Md_feed_73 : decode c_Md_feed 73 = .ok (.iastore, 1) := by decide +kernel
theorem d_Md_feed_74 : decode c_Md_feed 74 = .ok (.aload_n 0, 1) := by decide +kernel
theorem d_Md_feed_75 : decode c_Md_feed 75 = .ok (.dup, 1) := by decide +kernel
theorem d_Md_feed_76 : decode c_Md_feed 76 = .ok (.getfield 90, 3) := by decide +kernel
theorem d_Md_feed_79 : decode c_Md_feed 79 = .ok (.iconst 1, 1) := by decide +kernel
theorem d_Md_feed_80 : decode c_Md_feed 80 = .ok (.iadd, 1) := by decide +kernel
theorem d_Md_feed_81 : decode c_Md_feed 81 = .ok (.putfield 90, 3) := by decide +kernel
theorem d_Md_feed_84 : decode c_Md_feed 84 = .ok (.iinc 4 (-1), 3) := by decide +kernel
theorem d_Md_feed_87 : decode c_Md_feed 87 = .ok (.goto (-39), 3) := by decide +kernel
theorem d_Md_feed_90 : decode c_Md_feed 90 = .ok (.aload_n 0, 1) := by decide +kernel
theorem d_Md_feed_91 : decode c_Md_feed 91 = .ok (.getfield 90, 3) := by decide +kernel
theorem d_Md_feed_94 : decode c_Md_feed 94 = .ok (.ireturn, 1) := by decide +kernel
theorem d_Md_in_0 : decode c_Md_in 0 = .ok (.iload_n 0, 1) := by decide +kernel
theorem d_Md_in_1 : decode c_Md_in 1 = .ok (.iload_n 1, 1) := by decide +kernel
theorem d_Md_in_2 : decode c_Md_in 2 = .ok (.if_icmp .lt 12, 3) := by decide +kernel
theorem d_Md_in_5 : decode c_Md_in 5 = .ok (.iload_n 0, 1) := by decide +kernel
theorem d_Md_in_6 : decode c_Md_in 6 = .ok (.iload_n 2, 1) := by decide +kernel
theorem d_Md_in_7 : decode c_Md_in 7 = .ok (.if_icmp .gt 7, 3) := by decide +kernel
theorem d_Md_in_10 : decode c_Md_in 10 = .ok (.iconst 1, 1) := by decide +kernel
theorem d_Md_in_11 : decode c_Md_in 11 = .ok (.goto 4, 3) := by decide +kernel
theorem d_Md_in_14 : decode c_Md_in 14 = .ok (.iconst 0, 1) := by decide +kernel
theorem d_Md_in_15 : decode c_Md_in 15 = .ok (.ireturn, 1) := by decide +kernel
theorem d_Md_read_0 : decode c_Md_read 0 = .ok (.iload_n 1, 1) := by decide +kernel
theorem d_Md_read_1 : decode c_Md_read 1 = .ok (.invokestatic 135, 3) := by decide +kernel
theorem d_Md_read_4 : decode c_Md_read 4 = .ok (.ifCond .ne 15, 3) := by decide +kernel
theorem d_Md_read_7 : decode c_Md_read 7 = .ok (.aload_n 0, 1) := by decide +kernel
theorem d_Md_read_8 : decode c_Md_read 8 = .ok (.iconst 0, 1) := by decide +kernel
theorem d_Md_read_9 : decode c_Md_read 9 = .ok (.putfield 90, 3) := by decide +kernel
theorem d_Md_read_12 : decode c_Md_read 12 = .ok (.aload_n 0, 1) := by decide +kernel
theorem d_Md_read_13 : decode c_Md_read 13 = .ok (.iconst 1, 1) := by decide +kernel
theorem d_Md_read_14 : decode c_Md_read 14 = .ok (.putfield 83, 3) := by decide +kernel
theorem d_Md_read_17 : decode c_Md_read 17 = .ok (.iconst 0, 1) := by decide +kernel
theorem d_Md_read_18 : decode c_Md_read 18 = .ok (.ireturn, 1) := by decide +kernel
theorem d_Md_read_19 : decode c_Md_read 19 = .ok (.aload_n 0, 1) := by decide +kernel
theorem d_Md_read_20 : decode c_Md_read 20 = .ok (.iconst 0, 1) := by decide +kernel
theorem d_Md_read_21 : decode c_Md_read 21 = .ok (.putfield 93, 3) := by decide +kernel
theorem d_Md_read_24 : decode c_Md_read 24 = .ok (.aload_n 0, 1) := by decide +kernel
theorem d_Md_read_25 : decode c_Md_read 25 = .ok (.iconst (-1), 1) := by decide +kernel
theorem d_Md_read_26 : decode c_Md_read 26 = .ok (.putfield 99, 3) := by decide +kernel
theorem d_Md_read_29 : decode c_Md_read 29 = .ok (.aload_n 0, 1) := by decide +kernel
theorem d_Md_read_30 : decode c_Md_read 30 = .ok (.iconst 0, 1) := by decide +kernel
theorem d_Md_read_31 : decode c_Md_read 31 = .ok (.putfield 118, 3) := by decide +kernel
theorem d_Md_read_34 : decode c_Md_read 34 = .ok (.aload_n 0, 1) := by decide +kernel
theorem d_Md_read_35 : decode c_Md_read 35 = .ok (.iconst 0, 1) := by decide +kernel
theorem d_Md_read_36 : decode c_Md_read 36 = .ok (.putfield 96, 3) := by decide +kernel
theorem d_Md_read_39 : decode c_Md_read 39 = .ok (.aload_n 0, 1) := by decide +kernel
theorem d_Md_read_40 : decode c_Md_read 40 = .ok (.iconst 0, 1) := by decide +kernel
theorem d_Md_read_41 : decode c_Md_read 41 = .ok (.putfield 102, 3) := by decide +kernel
theorem d_Md_read_44 : decode c_Md_read 44 = .ok (.aload_n 0, 1) := by decide +kernel
theorem d_Md_read_45 : decode c_Md_read 45 = .ok (.invokevirtual 139, 3) := by decide +kernel
theorem d_Md_read_48 : decode c_Md_read 48 = .ok (.istore_n 2, 1) := by decide +kernel
theorem d_Md_read_49 : decode c_Md_read 49 = .ok (.aload_n 0, 1) := by decide +kernel
theorem d_Md_read_50 : decode c_Md_read 50 = .ok (.getfield 99, 3) := by decide +kernel
theorem d_Md_read_53 : decode c_Md_read 53 = .ok (.ifCond .ge 14, 3) := by decide +kernel
theorem d_Md_read_56 : decode c_Md_read 56 = .ok (.aload_n 0, 1) := by decide +kernel
theorem d_Md_read_57 : decode c_Md_read 57 = .ok (.invokevirtual 110, 3) := by decide +kernel
theorem d_Md_read_60 : decode c_Md_read 60 = .ok (.ifCond .lt 7, 3) := by decide +kernel
theorem d_Md_read_63 : decode c_Md_read 63 = .ok (.aload_n 0, 1) := by decide +kernel
theorem d_Md_read_64 : decode c_Md_read 64 = .ok (.invokevirtual 105, 3) := by decide +kernel
theorem d_Md_read_67 : decode c_Md_read 67 = .ok (.aload_n 0, 1) := by decide +kernel
theorem d_Md_read_68 : decode c_Md_read 68 = .ok (.iconst 0, 1) := by decide +kernel
theorem d_Md_read_69 : decode c_Md_read 69 = .ok (.putfield 90, 3) := by decide +kernel
theorem d_Md_read_72 : decode c_Md_read 72 = .ok (.aload_n 0, 1) := by decide +kernel
theorem d_Md_read_73 : decode c_Md_read 73 = .ok (.aload_n 0, 1) := by decide +kernel
theorem d_Md_read_74 : decode c_Md_read 74 = .ok (.getfield 99, 3) := by decide +kernel
theorem d_Md_read_77 : decode c_Md_read 77 = .ok (.putfield 13, 3) := by decide +kernel
theorem d_Md_read_80 : decode c_Md_read 80 = .ok (.aload_n 0, 1) := by decide +kernel
theorem d_Md_read_81 : decode c_Md_read 81 = .ok (.aload_n 0, 1) := by decide +kernel
theorem d_Md_read_82 : decode c_Md_read 82 = .ok (.getfield 99, 3) := by decide +kernel
theorem d_Md_read_85 : decode c_Md_read 85 = .ok (.ifCond .ge 7, 3) := by decide +kernel
theorem d_Md_read_88 : decode c_Md_read 88 = .ok (.iconst 1, 1) := by decide +kernel
theorem d_Md_read_89 : decode c_Md_read 89 = .ok (.goto 4, 3) := by decide +kernel
theorem d_Md_read_92 : decode c_Md_read 92 = .ok (.iconst 0, 1) := by decide +kernel
theorem d_Md_read_93 : decode c_Md_read 93 = .ok (.invokevirtual 142, 3) := by decide +kernel
theorem d_Md_read_96 : decode c_Md_read 96 = .ok (.ifCond .ne 5, 3) := by decide +kernel
theorem d_Md_read_99 : decode c_Md_read 99 = .ok (.iconst 0, 1) := by decide +kernel
theorem d_Md_read_100 : decode c_Md_read 100 = .ok (.ireturn, 1) := by decide +kernel
theorem d_Md_read_101 : decode c_Md_read 101 = .ok (.aload_n 0, 1) := by decide +kernel
theorem d_Md_read_102 : decode c_Md_read 102 = .ok (.getfield 17, 3) := by decide +kernel
theorem d_Md_read_105 : decode c_Md_read 105 = .ok (.iload_n 1, 1) := by decide +kernel
theorem d_Md_read_106 : decode c_Md_read 106 = .ok (.aload_n 0, 1) := by decide +kernel
theorem d_Md_read_107 : decode c_Md_read 107 = .ok (.getfield 102, 3) := by decide +kernel
theorem d_Md_read_110 : decode c_Md_read 110 = .ok (.iastore, 1) := by decide +kernel
theorem d_Md_read_111 : decode c_Md_read 111 = .ok (.aload_n 0, 1) := by decide +kernel
theorem d_Md_read_112 : decode c_Md_read 112 = .ok (.getfield 23, 3) := by decide +kernel
theorem d_Md_read_115 : decode c_Md_read 115 = .ok (.iload_n 1, 1) := by decide +kernel
theorem d_Md_read_116 : decode c_Md_read 116 = .ok (.aload_n 0, 1) := by decide +kernel
theorem d_Md_read_117 : decode c_Md_read 117 = .ok (.getfield 42, 3) := by decide +kernel
theorem d_Md_read_120 : decode c_Md_read 120 = .ok (.iload_n 2, 1) := by decide +kernel
theorem d_Md_read_121 : decode c_Md_read 121 = .ok (.iaload, 1) := by decide +kernel
theorem d_Md_read_122 : decode c_Md_read 122 = .ok (.iastore, 1) := by decide +kernel
theorem d_Md_read_123 : decode c_Md_read 123 = .ok (.aload_n 0, 1) := by decide +kernel
theorem d_Md_read_124 : decode c_Md_read 124 = .ok (.getfield 26, 3) := by decide +kernel
theorem d_Md_read_127 : decode c_Md_read 127 = .ok (.iload_n 1, 1) := by decide +kernel
theorem d_Md_read_128 : decode c_Md_read 128 = .ok (.aload_n 0, 1) := by decide +kernel
theorem d_Md_read_129 : decode c_Md_read 129 = .ok (.getfield 45, 3) := by decide +kernel
theorem d_Md_read_132 : decode c_Md_read 132 = .ok (.iload_n 2, 1) := by decide +kernel
theorem d_Md_read_133 : decode c_Md_read 133 = .ok (.iaload, 1) := by decide +kernel
theorem d_Md_read_134 : decode c_Md_read 134 = .ok (.iastore, 1) := by decide +kernel
theorem d_Md_read_135 : decode c_Md_read 135 = .ok (.aload_n 0, 1) := by decide +kernel
theorem d_Md_read_136 : decode c_Md_read 136 = .ok (.getfield 32, 3) := by decide +kernel
theorem d_Md_read_139 : decode c_Md_read 139 = .ok (.iload_n 1, 1) := by decide +kernel
theorem d_Md_read_140 : decode c_Md_read 140 = .ok (.aload_n 0, 1) := by decide +kernel
theorem d_Md_read_141 : decode c_Md_read 141 = .ok (.getfield 39, 3) := by decide +kernel
theorem d_Md_read_144 : decode c_Md_read 144 = .ok (.iload_n 2, 1) := by decide +kernel
theorem d_Md_read_145 : decode c_Md_read 145 = .ok (.baload, 1) := by decide +kernel
theorem d_Md_read_146 : decode c_Md_read 146 = .ok (.bastore, 1) := by decide +kernel
theorem d_Md_read_147 : decode c_Md_read 147 = .ok (.iconst 0, 1) := by decide +kernel
theorem d_Md_read_148 : decode c_Md_read 148 = .ok (.istore_n 3, 1) := by decide +kernel
theorem d_Md_read_149 : decode c_Md_read 149 = .ok (.iload_n 3, 1) := by decide +kernel
theorem d_Md_read_150 : decode c_Md_read 150 = .ok (.aload_n 0, 1) := by decide +kernel
theorem d_Md_read_151 : decode c_Md_read 151 = .ok (.getfield 102, 3) := by decide +kernel
theorem d_Md_read_154 : decode c_Md_read 154 = .ok (.if_icmp .ge 43, 3) := by decide +kernel
theorem d_Md_read_157 : decode c_Md_read 157 = .ok (.aload_n 0, 1) := by decide +kernel
theorem d_Md_read_158 : decode c_Md_read 158 = .ok (.getfield 20, 3) := by decide +kernel
theorem d_Md_read_161 : decode c_Md_read 161 = .ok (.iload_n 1, 1) := by decide +kernel
theorem d_Md_read_162 : decode c_Md_read 162 = .ok (.bipush 8, 2) := by decide +kernel
theorem d_Md_read_164 : decode c_Md_read 164 = .ok (.imul, 1) := by decide +kernel
theorem d_Md_read_165 : decode c_Md_read 165 = .ok (.iload_n 3, 1) := by decide +kernel
theorem d_Md_read_166 : decode c_Md_read 166 = .ok (.iadd, 1) := by decide +kernel
theorem d_Md_read_167 : decode c_Md_read 167 = .ok (.aload_n 0, 1) := by decide +kernel
theorem d_Md_read_168 : decode c_Md_read 168 = .ok (.getfield 48, 3) := by decide +kernel
theorem d_Md_read_171 : decode c_Md_read 171 = .ok (.iload_n 3, 1) := by decide +kernel
theorem d_Md_read_172 : decode c_Md_read 172 = .ok (.iaload, 1) := by decide +kernel
theorem d_Md_read_173 : decode c_Md_read 173 = .ok (.iastore, 1) := by decide +kernel
theorem d_Md_read_174 : decode c_Md_read 174 = .ok (.aload_n 0, 1) := by decide +kernel
theorem d_Md_read_175 : decode c_Md_read 175 = .ok (.getfield 29, 3) := by decide +kernel
theorem d_Md_read_178 : decode c_Md_read 178 = .ok (.iload_n 1, 1) := by decide +kernel
theorem d_Md_read_179 : decode c_Md_read 179 = .ok (.bipush 8, 2) := by decide +kernel
theorem d_Md_read_181 : decode c_Md_read 181 = .ok (.imul, 1) := by decide +kernel
theorem d_Md_read_182 : decode c_Md_read 182 = .ok (.iload_n 3, 1) := by decide +kernel
theorem d_Md_read_183 : decode c_Md_read 183 = .ok (.iadd, 1) := by decide +kernel
theorem d_Md_read_184 : decode c_Md_read 184 = .ok (.aload_n 0, 1) := by decide +kernel
theorem d_Md_read_185 : decode c_Md_read 185 = .ok (.getfield 51, 3) := by decide +kernel
theorem d_Md_read_188 : decode c_Md_read 188 = .ok (.iload_n 3, 1) := by decide +kernel
theorem d_Md_read_189 : decode c_Md_read 189 = .ok (.iaload, 1) := by decide +kernel
theorem d_Md_read_190 : decode c_Md_read 190 = .ok (.iastore, 1) := by decide +kernel
theorem d_Md_read_191 : decode c_Md_read 191 = .ok (.iinc 3 1, 3) := by decide +kernel
theorem d_Md_read_194 : decode c_Md_read 194 = .ok (.goto (-45), 3) := by decide +kernel
theorem d_Md_read_197 : decode c_Md_read 197 = .ok (.aload_n 0, 1) := by decide +kernel
theorem d_Md_read_198 : decode c_Md_read 198 = .ok (.getfield 102, 3) := by decide +kernel
theorem d_Md_read_201 : decode c_Md_read 201 = .ok (.ireturn, 1) := by decide +kernel
theorem d_Md_isSlot_0 : decode c_Md_isSlot 0 = .ok (.iload_n 0, 1) := by decide +kernel
theorem d_Md_isSlot_1 : decode c_Md_isSlot 1 = .ok (.iconst 0, 1) := by decide +kernel
theorem d_Md_isSlot_2 : decode c_Md_isSlot 2 = .ok (.iconst 3, 1) := by decide +kernel
theorem d_Md_isSlot_3 : decode c_Md_isSlot 3 = .ok (.invokestatic 86, 3) := by decide +kernel
theorem d_Md_isSlot_6 : decode c_Md_isSlot 6 = .ok (.ireturn, 1) := by decide +kernel
theorem d_Md_sum_0 : decode c_Md_sum 0 = .ok (.aload_n 0, 1) := by decide +kernel
theorem d_Md_sum_1 : decode c_Md_sum 1 = .ok (.getfield 77, 3) := by decide +kernel
theorem d_Md_sum_4 : decode c_Md_sum 4 = .ok (.iconst 0, 1) := by decide +kernel
theorem d_Md_sum_5 : decode c_Md_sum 5 = .ok (.iconst (-1), 1) := by decide +kernel
theorem d_Md_sum_6 : decode c_Md_sum 6 = .ok (.iastore, 1) := by decide +kernel
theorem d_Md_sum_7 : decode c_Md_sum 7 = .ok (.aload_n 0, 1) := by decide +kernel
theorem d_Md_sum_8 : decode c_Md_sum 8 = .ok (.getfield 80, 3) := by decide +kernel
theorem d_Md_sum_11 : decode c_Md_sum 11 = .ok (.iconst 0, 1) := by decide +kernel
theorem d_Md_sum_12 : decode c_Md_sum 12 = .ok (.iconst (-1), 1) := by decide +kernel
theorem d_Md_sum_13 : decode c_Md_sum 13 = .ok (.iastore, 1) := by decide +kernel
theorem d_Md_sum_14 : decode c_Md_sum 14 = .ok (.iconst 1, 1) := by decide +kernel
theorem d_Md_sum_15 : decode c_Md_sum 15 = .ok (.istore_n 1, 1) := by decide +kernel
theorem d_Md_sum_16 : decode c_Md_sum 16 = .ok (.iload_n 1, 1) := by decide +kernel
theorem d_Md_sum_17 : decode c_Md_sum 17 = .ok (.ifCond .eq 292, 3) := by decide +kernel
theorem d_Md_sum_20 : decode c_Md_sum 20 = .ok (.aload_n 0, 1) := by decide +kernel
theorem d_Md_sum_21 : decode c_Md_sum 21 = .ok (.getfield 99, 3) := by decide +kernel
theorem d_Md_sum_24 : decode c_Md_sum 24 = .ok (.ifCond .ge 285, 3) := by decide +kernel
theorem d_Md_sum_27 : decode c_Md_sum 27 = .ok (.aload_n 0, 1) := by decide +kernel
theorem d_Md_sum_28 : decode c_Md_sum 28 = .ok (.invokevirtual 110, 3) := by decide +kernel
theorem d_Md_sum_31 : decode c_Md_sum 31 = .ok (.bipush 40, 2) := by decide +kernel
theorem d_Md_sum_33 : decode c_Md_sum 33 = .ok (.if_icmp .ne 55, 3) := by decide +kernel
theorem d_Md_sum_36 : decode c_Md_sum 36 = .ok (.aload_n 0, 1) := by decide +kernel
theorem d_Md_sum_37 : decode c_Md_sum 37 = .ok (.getfield 118, 3) := by decide +kernel
theorem d_Md_sum_40 : decode c_Md_sum 40 = .ok (.bipush 8, 2) := by decide +kernel
theorem d_Md_sum_42 : decode c_Md_sum 42 = .ok (.if_icmp .ge 46, 3) := by decide +kernel
theorem d_Md_sum_45 : decode c_Md_sum 45 = .ok (.aload_n 0, 1) := by decide +kernel
theorem d_Md_sum_46 : decode c_Md_sum 46 = .ok (.dup, 1) := by decide +kernel
theorem d_Md_sum_47 : decode c_Md_sum 47 = .ok (.getfield 118, 3) := by decide +kernel
theorem d_Md_sum_50 : decode c_Md_sum 50 = .ok (.iconst 1, 1) := by decide +kernel
theorem d_Md_sum_51 : decode c_Md_sum 51 = .ok (.iadd, 1) := by decide +kernel
theorem d_Md_sum_52 : decode c_Md_sum 52 = .ok (.putfield 118, 3) := by decide +kernel
theorem d_Md_sum_55 : decode c_Md_sum 55 = .ok (.aload_n 0, 1) := by decide +kernel
theorem d_Md_sum_56 : decode c_Md_sum 56 = .ok (.dup, 1) := by decide +kernel
theorem d_Md_sum_57 : decode c_Md_sum 57 = .ok (.getfield 93, 3) := by decide +kernel
theorem d_Md_sum_60 : decode c_Md_sum 60 = .ok (.iconst 1, 1) := by decide +kernel
theorem d_Md_sum_61 : decode c_Md_sum 61 = .ok (.iadd, 1) := by decide +kernel
theorem d_Md_sum_62 : decode c_Md_sum 62 = .ok (.putfield 93, 3) := by decide +kernel
theorem d_Md_sum_65 : decode c_Md_sum 65 = .ok (.aload_n 0, 1) := by decide +kernel
theorem d_Md_sum_66 : decode c_Md_sum 66 = .ok (.getfield 77, 3) := by decide +kernel
theorem d_Md_sum_69 : decode c_Md_sum 69 = .ok (.aload_n 0, 1) := by decide +kernel
theorem d_Md_sum_70 : decode c_Md_sum 70 = .ok (.getfield 118, 3) := by decide +kernel
theorem d_Md_sum_73 : decode c_Md_sum 73 = .ok (.iconst (-1), 1) := by decide +kernel
theorem d_Md_sum_74 : decode c_Md_sum 74 = .ok (.iastore, 1) := by decide +kernel
theorem d_Md_sum_75 : decode c_Md_sum 75 = .ok (.aload_n 0, 1) := by decide +kernel
theorem d_Md_sum_76 : decode c_Md_sum 76 = .ok (.getfield 80, 3) := by decide +kernel
theorem d_Md_sum_79 : decode c_Md_sum 79 = .ok (.aload_n 0, 1) := by decide +kernel
theorem d_Md_sum_80 : decode c_Md_sum 80 = .ok (.getfield 118, 3) := by decide +kernel
theorem d_Md_sum_83 : decode c_Md_sum 83 = .ok (.iconst (-1), 1) := by decide +kernel
theorem d_Md_sum_84 : decode c_Md_sum 84 = .ok (.iastore, 1) := by decide +kernel
theorem d_Md_sum_85 : decode c_Md_sum 85 = .ok (.goto (-69), 3) := by decide +kernel
theorem d_Md_sum_88 : decode c_Md_sum 88 = .ok (.aload_n 0, 1) := by decide +kernel
theorem d_Md_sum_89 : decode c_Md_sum 89 = .ok (.aload_n 0, 1) := by decide +kernel
theorem d_Md_sum_90 : decode c_Md_sum 90 = .ok (.invokevirtual 110, 3) := by decide +kernel
theorem d_Md_sum_93 : decode c_Md_sum 93 = .ok (.invokevirtual 121, 3) := by decide +kernel
theorem d_Md_sum_96 : decode c_Md_sum 96 = .ok (.istore_n 2, 1) := by decide +kernel
theorem d_Md_sum_97 : decode c_Md_sum 97 = .ok (.aload_n 0, 1) := by decide +kernel
theorem d_Md_sum_98 : decode c_Md_sum 98 = .ok (.getfield 99, 3) := by decide +kernel
theorem d_Md_sum_101 : decode c_Md_sum 101 = .ok (.ifCond .ge 7, 3) := by decide +kernel
theorem d_Md_sum_104 : decode c_Md_sum 104 = .ok (.iconst 1, 1) := by decide +kernel
theorem d_Md_sum_105 : decode c_Md_sum 105 = .ok (.goto 4, 3) := by decide +kernel
theorem d_Md_sum_108 : decode c_Md_sum 108 = .ok (.iconst 0, 1) := by decide +kernel
theorem d_Md_sum_109 : decode c_Md_sum 109 = .ok (.istore_n 3, 1) := by decide +kernel
theorem d_Md_sum_110 : decode c_Md_sum 110 = .ok (.iload_n 3, 1) := by decide +kernel
theorem d_Md_sum_111 : decode c_Md_sum 111 = .ok (.ifCond .eq 105, 3) := by decide +kernel
theorem d_Md_sum_114 : decode c_Md_sum 114 = .ok (.aload_n 0, 1) := by decide +kernel
theorem d_Md_sum_115 : decode c_Md_sum 115 = .ok (.getfield 80, 3) := by decide +kernel
theorem d_Md_sum_118 : decode c_Md_sum 118 = .ok (.aload_n 0, 1) := by decide +kernel
theorem d_Md_sum_119 : decode c_Md_sum 119 = .ok (.getfield 118, 3) := by decide +kernel
theorem d_Md_sum_122 : decode c_Md_sum 122 = .ok (.aload_n 0, 1) := by decide +kernel
theorem d_Md_sum_123 : decode c_Md_sum 123 = .ok (.aload_n 0, 1) := by decide +kernel
theorem d_Md_sum_124 : decode c_Md_sum 124 = .ok (.getfield 80, 3) := by decide +kernel
theorem d_Md_sum_127 : decode c_Md_sum 127 = .ok (.aload_n 0, 1) := by decide +kernel
theorem d_Md_sum_128 : decode c_Md_sum 128 = .ok (.getfield 118, 3) := by decide +kernel
theorem d_Md_sum_131 : decode c_Md_sum 131 = .ok (.iaload, 1) := by decide +kernel
theorem d_Md_sum_132 : decode c_Md_sum 132 = .ok (.aload_n 0, 1) := by decide +kernel
theorem d_Md_sum_133 : decode c_Md_sum 133 = .ok (.iload_n 2, 1) := by decide +kernel
theorem d_Md_sum_134 : decode c_Md_sum 134 = .ok (.invokevirtual 125, 3) := by decide +kernel
theorem d_Md_sum_137 : decode c_Md_sum 137 = .ok (.invokevirtual 128, 3) := by decide +kernel
theorem d_Md_sum_140 : decode c_Md_sum 140 = .ok (.iastore, 1) := by decide +kernel
theorem d_Md_sum_141 : decode c_Md_sum 141 = .ok (.aload_n 0, 1) := by decide +kernel
theorem d_Md_sum_142 : decode c_Md_sum 142 = .ok (.invokevirtual 110, 3) := by decide +kernel
theorem d_Md_sum_145 : decode c_Md_sum 145 = .ok (.bipush 41, 2) := by decide +kernel
theorem d_Md_sum_147 : decode c_Md_sum 147 = .ok (.if_icmp .ne 14, 3) := by decide +kernel
theorem d_Md_sum_150 : decode c_Md_sum 150 = .ok (.aload_n 0, 1) := by decide +kernel
theorem d_Md_sum_151 : decode c_Md_sum 151 = .ok (.getfield 118, 3) := by decide +kernel
theorem d_Md_sum_154 : decode c_Md_sum 154 = .ok (.ifCond .le 7, 3) := by decide +kernel
theorem d_Md_sum_157 : decode c_Md_sum 157 = .ok (.iconst 1, 1) := by decide +kernel
theorem d_Md_sum_158 : decode c_Md_sum 158 = .ok (.goto 4, 3) := by decide +kernel
theorem d_Md_sum_161 : decode c_Md_sum 161 = .ok (.iconst 0, 1) := by decide +kernel
theorem d_Md_sum_162 : decode c_Md_sum 162 = .ok (.istore_n 3, 1) := by decide +kernel
theorem d_Md_sum_163 : decode c_Md_sum 163 = .ok (.iload_n 3, 1) := by decide +kernel
theorem d_Md_sum_164 : decode c_Md_sum 164 = .ok (.ifCond .ne 6, 3) := by decide +kernel
theorem d_Md_sum_167 : decode c_Md_sum 167 = .ok (.goto (-57), 3) := by decide +kernel
theorem d_Md_sum_170 : decode c_Md_sum 170 = .ok (.aload_n 0, 1) := by decide +kernel
theorem d_Md_sum_171 : decode c_Md_sum 171 = .ok (.aload_n 0, 1) := by decide +kernel
theorem d_Md_sum_172 : decode c_Md_sum 172 = .ok (.getfield 77, 3) := by decide +kernel
theorem d_Md_sum_175 : decode c_Md_sum 175 = .ok (.aload_n 0, 1) := by decide +kernel
theorem d_Md_sum_176 : decode c_Md_sum 176 = .ok (.getfield 118, 3) := by decide +kernel
theorem d_Md_sum_179 : decode c_Md_sum 179 = .ok (.iaload, 1) := by decide +kernel
theorem d_Md_sum_180 : decode c_Md_sum 180 = .ok (.aload_n 0, 1) := by decide +kernel
theorem d_Md_sum_181 : decode c_Md_sum 181 = .ok (.getfield 80, 3) := by decide +kernel
theorem d_Md_sum_184 : decode c_Md_sum 184 = .ok (.aload_n 0, 1) := by decide +kernel
theorem d_Md_sum_185 : decode c_Md_sum 185 = .ok (.getfield 118, 3) := by decide +kernel
theorem d_Md_sum_188 : decode c_Md_sum 188 = .ok (.iaload, 1) := by decide +kernel
theorem d_Md_sum_189 : decode c_Md_sum 189 = .ok (.invokevirtual 132, 3) := by decide +kernel
theorem d_Md_sum_192 : decode c_Md_sum 192 = .ok (.istore_n 2, 1) := by decide +kernel
theorem d_Md_sum_193 : decode c_Md_sum 193 = .ok (.aload_n 0, 1) := by decide +kernel
theorem d_Md_sum_194 : decode c_Md_sum 194 = .ok (.dup, 1) := by decide +kernel
theorem d_Md_sum_195 : decode c_Md_sum 195 = .ok (.getfield 118, 3) := by decide +kernel
theorem d_Md_sum_198 : decode c_Md_sum 198 = .ok (.iconst 1, 1) := by decide +kernel
theorem d_Md_sum_199 : decode c_Md_sum 199 = .ok (.isub, 1) := by decide +kernel
theorem d_Md_sum_200 : decode c_Md_sum 200 = .ok (.putfield 118, 3) := by decide +kernel
theorem d_Md_sum_203 : decode c_Md_sum 203 = .ok (.aload_n 0, 1) := by decide +kernel
theorem d_Md_sum_204 : decode c_Md_sum 204 = .ok (.dup, 1) := by decide +kernel
theorem d_Md_sum_205 : decode c_Md_sum 205 = .ok (.getfield 93, 3) := by decide +kernel
theorem d_Md_sum_208 : decode c_Md_sum 208 = .ok (.iconst 1, 1) := by decide +kernel
theorem d_Md_sum_209 : decode c_Md_sum 209 = .ok (.iadd, 1) := by decide +kernel
theorem d_Md_sum_210 : decode c_Md_sum 210 = .ok (.putfield 93, 3) := by decide +kernel
theorem d_Md_sum_213 : decode c_Md_sum 213 = .ok (.goto (-103), 3) := by decide +kernel
theorem d_Md_sum_216 : decode c_Md_sum 216 = .ok (.aload_n 0, 1) := by decide +kernel
theorem d_Md_sum_217 : decode c_Md_sum 217 = .ok (.getfield 99, 3) := by decide +kernel
theorem d_Md_sum_220 : decode c_Md_sum 220 = .ok (.ifCond .lt 5, 3) := by decide +kernel
theorem d_Md_sum_223 : decode c_Md_sum 223 = .ok (.iconst 0, 1) := by decide +kernel
theorem d_Md_sum_224 : decode c_Md_sum 224 = .ok (.ireturn, 1) := by decide +kernel
theorem d_Md_sum_225 : decode c_Md_sum 225 = .ok (.aload_n 0, 1) := by decide +kernel
theorem d_Md_sum_226 : decode c_Md_sum 226 = .ok (.invokevirtual 110, 3) := by decide +kernel
theorem d_Md_sum_229 : decode c_Md_sum 229 = .ok (.bipush 124, 2) := by decide +kernel
theorem d_Md_sum_231 : decode c_Md_sum 231 = .ok (.if_icmp .ne 57, 3) := by decide +kernel
theorem d_Md_sum_234 : decode c_Md_sum 234 = .ok (.aload_n 0, 1) := by decide +kernel
theorem d_Md_sum_235 : decode c_Md_sum 235 = .ok (.getfield 77, 3) := by decide +kernel
theorem d_Md_sum_238 : decode c_Md_sum 238 = .ok (.aload_n 0, 1) := by decide +kernel
theorem d_Md_sum_239 : decode c_Md_sum 239 = .ok (.getfield 118, 3) := by decide +kernel
theorem d_Md_sum_242 : decode c_Md_sum 242 = .ok (.aload_n 0, 1) := by decide +kernel
theorem d_Md_sum_243 : decode c_Md_sum 243 = .ok (.aload_n 0, 1) := by decide +kernel
theorem d_Md_sum_244 : decode c_Md_sum 244 = .ok (.getfield 77, 3) := by decide +kernel
theorem d_Md_sum_247 : decode c_Md_sum 247 = .ok (.aload_n 0, 1) := by decide +kernel
theorem d_Md_sum_248 : decode c_Md_sum 248 = .ok (.getfield 118, 3) := by decide +kernel
theorem d_Md_sum_251 : decode c_Md_sum 251 = .ok (.iaload, 1) := by decide +kernel
theorem d_Md_sum_252 : decode c_Md_sum 252 = .ok (.aload_n 0, 1) := by decide +kernel
theorem d_Md_sum_253 : decode c_Md_sum 253 = .ok (.getfield 80, 3) := by decide +kernel
theorem d_Md_sum_256 : decode c_Md_sum 256 = .ok (.aload_n 0, 1) := by decide +kernel
theorem d_Md_sum_257 : decode c_Md_sum 257 = .ok (.getfield 118, 3) := by decide +kernel
theorem d_Md_sum_260 : decode c_Md_sum 260 = .ok (.iaload, 1) := by decide +kernel
theorem d_Md_sum_261 : decode c_Md_sum 261 = .ok (.invokevirtual 132, 3) := by decide +kernel
theorem d_Md_sum_264 : decode c_Md_sum 264 = .ok (.iastore, 1) := by decide +kernel
theorem d_Md_sum_265 : decode c_Md_sum 265 = .ok (.aload_n 0, 1) := by decide +kernel
theorem d_Md_sum_266 : decode c_Md_sum 266 = .ok (.getfield 80, 3) := by decide +kernel
theorem d_Md_sum_269 : decode c_Md_sum 269 = .ok (.aload_n 0, 1) := by decide +kernel
theorem d_Md_sum_270 : decode c_Md_sum 270 = .ok (.getfield 118, 3) := by decide +kernel
theorem d_Md_sum_273 : decode c_Md_sum 273 = .ok (.iconst (-1), 1) := by decide +kernel
theorem d_Md_sum_274 : decode c_Md_sum 274 = .ok (.iastore, 1) := by decide +kernel
theorem d_Md_sum_275 : decode c_Md_sum 275 = .ok (.aload_n 0, 1) := by decide +kernel
theorem d_Md_sum_276 : decode c_Md_sum 276 = .ok (.dup, 1) := by decide +kernel
theorem d_Md_sum_277 : decode c_Md_sum 277 = .ok (.getfield 93, 3) := by decide +kernel
theorem d_Md_sum_280 : decode c_Md_sum 280 = .ok (.iconst 1, 1) := by decide +kernel
theorem d_Md_sum_281 : decode c_Md_sum 281 = .ok (.iadd, 1) := by decide +kernel
theorem d_Md_sum_282 : decode c_Md_sum 282 = .ok (.putfield 93, 3) := by decide +kernel
theorem d_Md_sum_285 : decode c_Md_sum 285 = .ok (.goto 21, 3) := by decide +kernel
theorem d_Md_sum_288 : decode c_Md_sum 288 = .ok (.aload_n 0, 1) := by decide +kernel
theorem d_Md_sum_289 : decode c_Md_sum 289 = .ok (.invokevirtual 110, 3) := by decide +kernel
theorem d_Md_sum_292 : decode c_Md_sum 292 = .ok (.ifCond .lt 12, 3) := by decide +kernel
theorem d_Md_sum_295 : decode c_Md_sum 295 = .ok (.aload_n 0, 1) := by decide +kernel
theorem d_Md_sum_296 : decode c_Md_sum 296 = .ok (.invokevirtual 110, 3) := by decide +kernel
theorem d_Md_sum_299 : decode c_Md_sum 299 = .ok (.bipush 41, 2) := by decide +kernel
theorem d_Md_sum_301 : decode c_Md_sum 301 = .ok (.if_icmp .ne 5, 3) := by decide +kernel
theorem d_Md_sum_304 : decode c_Md_sum 304 = .ok (.iconst 0, 1) := by decide +kernel
theorem d_Md_sum_305 : decode c_Md_sum 305 = .ok (.istore_n 1, 1) := by decide +kernel
theorem d_Md_sum_306 : decode c_Md_sum 306 = .ok (.goto (-290), 3) := by decide +kernel
theorem d_Md_sum_309 : decode c_Md_sum 309 = .ok (.aload_n 0, 1) := by decide +kernel
theorem d_Md_sum_310 : decode c_Md_sum 310 = .ok (.getfield 99, 3) := by decide +kernel
theorem d_Md_sum_313 : decode c_Md_sum 313 = .ok (.ifCond .ge 14, 3) := by decide +kernel
theorem d_Md_sum_316 : decode c_Md_sum 316 = .ok (.aload_n 0, 1) := by decide +kernel
theorem d_Md_sum_317 : decode c_Md_sum 317 = .ok (.getfield 118, 3) := by decide +kernel
theorem d_Md_sum_320 : decode c_Md_sum 320 = .ok (.ifCond .le 7, 3) := by decide +kernel
theorem d_Md_sum_323 : decode c_Md_sum 323 = .ok (.aload_n 0, 1) := by decide +kernel
theorem d_Md_sum_324 : decode c_Md_sum 324 = .ok (.invokevirtual 105, 3) := by decide +kernel
theorem d_Md_sum_327 : decode c_Md_sum 327 = .ok (.aload_n 0, 1) := by decide +kernel
theorem d_Md_sum_328 : decode c_Md_sum 328 = .ok (.getfield 99, 3) := by decide +kernel
theorem d_Md_sum_331 : decode c_Md_sum 331 = .ok (.ifCond .ge 22, 3) := by decide +kernel
theorem d_Md_sum_334 : decode c_Md_sum 334 = .ok (.aload_n 0, 1) := by decide +kernel
theorem d_Md_sum_335 : decode c_Md_sum 335 = .ok (.aload_n 0, 1) := by decide +kernel
theorem d_Md_sum_336 : decode c_Md_sum 336 = .ok (.getfield 77, 3) := by decide +kernel
theorem d_Md_sum_339 : decode c_Md_sum 339 = .ok (.iconst 0, 1) := by decide +kernel
theorem d_Md_sum_340 : decode c_Md_sum 340 = .ok (.iaload, 1) := by decide +kernel
theorem d_Md_sum_341 : decode c_Md_sum 341 = .ok (.aload_n 0, 1) := by decide +kernel
theorem d_Md_sum_342 : decode c_Md_sum 342 = .ok (.getfield 80, 3) := by decide +kernel
theorem d_Md_sum_345 : decode c_Md_sum 345 = .ok (.iconst 0, 1) := by decide +kernel
theorem d_Md_sum_346 : decode c_Md_sum 346 = .ok (.iaload, 1) := by decide +kernel
theorem d_Md_sum_347 : decode c_Md_sum 347 = .ok (.invokevirtual 132, 3) := by decide +kernel
theorem d_Md_sum_350 : decode c_Md_sum 350 = .ok (.goto 4, 3) := by decide +kernel
theorem d_Md_sum_353 : decode c_Md_sum 353 = .ok (.iconst 0, 1) := by decide +kernel
theorem d_Md_sum_354 : decode c_Md_sum 354 = .ok (.ireturn, 1) := by decide +kernel
theorem d_Md_see_0 : decode c_Md_see 0 = .ok (.aload_n 0, 1) := by decide +kernel
theorem d_Md_see_1 : decode c_Md_see 1 = .ok (.getfield 93, 3) := by decide +kernel
theorem d_Md_see_4 : decode c_Md_see 4 = .ok (.aload_n 0, 1) := by decide +kernel
theorem d_Md_see_5 : decode c_Md_see 5 = .ok (.getfield 90, 3) := by decide +kernel
theorem d_Md_see_8 : decode c_Md_see 8 = .ok (.if_icmp .ge 15, 3) := by decide +kernel
theorem d_Md_see_11 : decode c_Md_see 11 = .ok (.aload_n 0, 1) := by decide +kernel
theorem d_Md_see_12 : decode c_Md_see 12 = .ok (.getfield 9, 3) := by decide +kernel
theorem d_Md_see_15 : decode c_Md_see 15 = .ok (.aload_n 0, 1) := by decide +kernel
theorem d_Md_see_16 : decode c_Md_see 16 = .ok (.getfield 93, 3) := by decide +kernel
theorem d_Md_see_19 : decode c_Md_see 19 = .ok (.iaload, 1) := by decide +kernel
theorem d_Md_see_20 : decode c_Md_see 20 = .ok (.goto 4, 3) := by decide +kernel
theorem d_Md_see_23 : decode c_Md_see 23 = .ok (.iconst (-1), 1) := by decide +kernel
theorem d_Md_see_24 : decode c_Md_see 24 = .ok (.ireturn, 1) := by decide +kernel
theorem d_Md_atom_0 : decode c_Md_atom 0 = .ok (.iload_n 1, 1) := by decide +kernel
theorem d_Md_atom_1 : decode c_Md_atom 1 = .ok (.bipush 48, 2) := by decide +kernel
theorem d_Md_atom_3 : decode c_Md_atom 3 = .ok (.if_icmp .eq 36, 3) := by decide +kernel
theorem d_Md_atom_6 : decode c_Md_atom 6 = .ok (.iload_n 1, 1) := by decide +kernel
theorem d_Md_atom_7 : decode c_Md_atom 7 = .ok (.bipush 49, 2) := by decide +kernel
theorem d_Md_atom_9 : decode c_Md_atom 9 = .ok (.if_icmp .eq 30, 3) := by decide +kernel
theorem d_Md_atom_12 : decode c_Md_atom 12 = .ok (.iload_n 1, 1) := by decide +kernel
theorem d_Md_atom_13 : decode c_Md_atom 13 = .ok (.bipush 97, 2) := by decide +kernel
theorem d_Md_atom_15 : decode c_Md_atom 15 = .ok (.if_icmp .lt 18, 3) := by decide +kernel
theorem d_Md_atom_18 : decode c_Md_atom 18 = .ok (.iload_n 1, 1) := by decide +kernel
theorem d_Md_atom_19 : decode c_Md_atom 19 = .ok (.bipush 100, 2) := by decide +kernel
theorem d_Md_atom_21 : decode c_Md_atom 21 = .ok (.if_icmp .gt 12, 3) := by decide +kernel
theorem d_Md_atom_24 : decode c_Md_atom 24 = .ok (.aload_n 0, 1) := by decide +kernel
theorem d_Md_atom_25 : decode c_Md_atom 25 = .ok (.getfield 102, 3) := by decide +kernel
theorem d_Md_atom_28 : decode c_Md_atom 28 = .ok (.bipush 8, 2) := by decide +kernel
theorem d_Md_atom_30 : decode c_Md_atom 30 = .ok (.if_icmp .ne 9, 3) := by decide +kernel
theorem d_Md_atom_33 : decode c_Md_atom 33 = .ok (.aload_n 0, 1) := by decide +kernel
theorem d_Md_atom_34 : decode c_Md_atom 34 = .ok (.invokevirtual 105, 3) := by decide +kernel
theorem d_Md_atom_37 : decode c_Md_atom 37 = .ok (.iconst 0, 1) := by decide +kernel
theorem d_Md_atom_38 : decode c_Md_atom 38 = .ok (.ireturn, 1) := by decide +kernel
theorem d_Md_atom_39 : decode c_Md_atom 39 = .ok (.aload_n 0, 1) := by decide +kernel
theorem d_Md_atom_40 : decode c_Md_atom 40 = .ok (.dup, 1) := by decide +kernel
theorem d_Md_atom_41 : decode c_Md_atom 41 = .ok (.getfield 93, 3) := by decide +kernel
theorem d_Md_atom_44 : decode c_Md_atom 44 = .ok (.iconst 1, 1) := by decide +kernel
theorem d_Md_atom_45 : decode c_Md_atom 45 = .ok (.iadd, 1) := by decide +kernel
theorem d_Md_atom_46 : decode c_Md_atom 46 = .ok (.putfield 93, 3) := by decide +kernel
theorem d_Md_atom_49 : decode c_Md_atom 49 = .ok (.iload_n 1, 1) := by decide +kernel
theorem d_Md_atom_50 : decode c_Md_atom 50 = .ok (.bipush 48, 2) := by decide +kernel
theorem d_Md_atom_52 : decode c_Md_atom 52 = .ok (.if_icmp .eq 9, 3) := by decide +kernel
theorem d_Md_atom_55 : decode c_Md_atom 55 = .ok (.iload_n 1, 1) := by decide +kernel
theorem d_Md_atom_56 : decode c_Md_atom 56 = .ok (.bipush 49, 2) := by decide +kernel
theorem d_Md_atom_58 : decode c_Md_atom 58 = .ok (.if_icmp .ne 21, 3) := by decide +kernel
theorem d_Md_atom_61 : decode c_Md_atom 61 = .ok (.aload_n 0, 1) := by decide +kernel
theorem d_Md_atom_62 : decode c_Md_atom 62 = .ok (.iload_n 1, 1) := by decide +kernel
theorem d_Md_atom_63 : decode c_Md_atom 63 = .ok (.bipush 49, 2) := by decide +kernel
theorem d_Md_atom_65 : decode c_Md_atom 65 = .ok (.if_icmp .ne 7, 3) := by decide +kernel
theorem d_Md_atom_68 : decode c_Md_atom 68 = .ok (.iconst 1, 1) := by decide +kernel
theorem d_Md_atom_69 : decode c_Md_atom 69 = .ok (.goto 4, 3) := by decide +kernel
theorem d_Md_atom_72 : decode c_Md_atom 72 = .ok (.iconst 0, 1) := by decide +kernel
theorem d_Md_atom_73 : decode c_Md_atom 73 = .ok (.iconst 0, 1) := by decide +kernel
theorem d_Md_atom_74 : decode c_Md_atom 74 = .ok (.iconst 0, 1) := by decide +kernel
theorem d_Md_atom_75 : decode c_Md_atom 75 = .ok (.invokevirtual 107, 3) := by decide +kernel
theorem d_Md_atom_78 : decode c_Md_atom 78 = .ok (.ireturn, 1) := by decide +kernel
theorem d_Md_atom_79 : decode c_Md_atom 79 = .ok (.aload_n 0, 1) := by decide +kernel
theorem d_Md_atom_80 : decode c_Md_atom 80 = .ok (.getfield 48, 3) := by decide +kernel
theorem d_Md_atom_83 : decode c_Md_atom 83 = .ok (.aload_n 0, 1) := by decide +kernel
theorem d_Md_atom_84 : decode c_Md_atom 84 = .ok (.getfield 102, 3) := by decide +kernel
theorem d_Md_atom_87 : decode c_Md_atom 87 = .ok (.iload_n 1, 1) := by decide +kernel
theorem d_Md_atom_88 : decode c_Md_atom 88 = .ok (.bipush 97, 2) := by decide +kernel
theorem d_Md_atom_90 : decode c_Md_atom 90 = .ok (.isub, 1) := by decide +kernel
theorem d_Md_atom_91 : decode c_Md_atom 91 = .ok (.iastore, 1) := by decide +kernel
theorem d_Md_atom_92 : decode c_Md_atom 92 = .ok (.aload_n 0, 1) := by decide +kernel
theorem d_Md_atom_93 : decode c_Md_atom 93 = .ok (.getfield 51, 3) := by decide +kernel
theorem d_Md_atom_96 : decode c_Md_atom 96 = .ok (.aload_n 0, 1) := by decide +kernel
theorem d_Md_atom_97 : decode c_Md_atom 97 = .ok (.getfield 102, 3) := by decide +kernel
theorem d_Md_atom_100 : decode c_Md_atom 100 = .ok (.iconst 0, 1) := by decide +kernel
theorem d_Md_atom_101 : decode c_Md_atom 101 = .ok (.iastore, 1) := by decide +kernel
theorem d_Md_atom_102 : decode c_Md_atom 102 = .ok (.aload_n 0, 1) := by decide +kernel
theorem d_Md_atom_103 : decode c_Md_atom 103 = .ok (.dup, 1) := by decide +kernel
theorem d_Md_atom_104 : decode c_Md_atom 104 = .ok (.getfield 102, 3) := by decide +kernel
theorem d_Md_atom_107 : decode c_Md_atom 107 = .ok (.iconst 1, 1) := by decide +kernel
theorem d_Md_atom_108 : decode c_Md_atom 108 = .ok (.iadd, 1) := by decide +kernel
theorem d_Md_atom_109 : decode c_Md_atom 109 = .ok (.putfield 102, 3) := by decide +kernel
theorem d_Md_atom_112 : decode c_Md_atom 112 = .ok (.aload_n 0, 1) := by decide +kernel
theorem d_Md_atom_113 : decode c_Md_atom 113 = .ok (.iconst 0, 1) := by decide +kernel
theorem d_Md_atom_114 : decode c_Md_atom 114 = .ok (.iconst 1, 1) := by decide +kernel
theorem d_Md_atom_115 : decode c_Md_atom 115 = .ok (.aload_n 0, 1) := by decide +kernel
theorem d_Md_atom_116 : decode c_Md_atom 116 = .ok (.getfield 102, 3) := by decide +kernel
theorem d_Md_atom_119 : decode c_Md_atom 119 = .ok (.iconst 1, 1) := by decide +kernel
theorem d_Md_atom_120 : decode c_Md_atom 120 = .ok (.isub, 1) := by decide +kernel
theorem d_Md_atom_121 : decode c_Md_atom 121 = .ok (.ishl, 1) := by decide +kernel
theorem d_Md_atom_122 : decode c_Md_atom 122 = .ok (.iconst 1, 1) := by decide +kernel
theorem d_Md_atom_123 : decode c_Md_atom 123 = .ok (.aload_n 0, 1) := by decide +kernel
theorem d_Md_atom_124 : decode c_Md_atom 124 = .ok (.getfield 102, 3) := by decide +kernel
theorem d_Md_atom_127 : decode c_Md_atom 127 = .ok (.iconst 1, 1) := by decide +kernel
theorem d_Md_atom_128 : decode c_Md_atom 128 = .ok (.isub, 1) := by decide +kernel
theorem d_Md_atom_129 : decode c_Md_atom 129 = .ok (.ishl, 1) := by decide +kernel
theorem d_Md_atom_130 : decode c_Md_atom 130 = .ok (.invokevirtual 107, 3) := by decide +kernel
theorem d_Md_atom_133 : decode c_Md_atom 133 = .ok (.ireturn, 1) := by decide +kernel
theorem d_Md_wrong_0 : decode c_Md_wrong 0 = .ok (.aload_n 0, 1) := by decide +kernel
theorem d_Md_wrong_1 : decode c_Md_wrong 1 = .ok (.getfield 99, 3) := by decide +kernel
theorem d_Md_wrong_4 : decode c_Md_wrong 4 = .ok (.ifCond .ge 11, 3) := by decide +kernel
theorem d_Md_wrong_7 : decode c_Md_wrong 7 = .ok (.aload_n 0, 1) := by decide +kernel
theorem d_Md_wrong_8 : decode c_Md_wrong 8 = .ok (.aload_n 0, 1) := by decide +kernel
theorem d_Md_wrong_9 : decode c_Md_wrong 9 = .ok (.getfield 93, 3) := by decide +kernel
theorem d_Md_wrong_12 : decode c_Md_wrong 12 = .ok (.putfield 99, 3) := by decide +kernel
theorem d_Md_wrong_15 : decode c_Md_wrong 15 = .ok (.return_, 1) := by decide +kernel
theorem d_Md_part_0 : decode c_Md_part 0 = .ok (.aload_n 0, 1) := by decide +kernel
theorem d_Md_part_1 : decode c_Md_part 1 = .ok (.getfield 39, 3) := by decide +kernel
theorem d_Md_part_4 : decode c_Md_part 4 = .ok (.aload_n 0, 1) := by decide +kernel
theorem d_Md_part_5 : decode c_Md_part 5 = .ok (.getfield 96, 3) := by decide +kernel
theorem d_Md_part_8 : decode c_Md_part 8 = .ok (.iload_n 1, 1) := by decide +kernel
theorem d_Md_part_9 : decode c_Md_part 9 = .ok (.bastore, 1) := by decide +kernel
theorem d_Md_part_10 : decode c_Md_part 10 = .ok (.aload_n 0, 1) := by decide +kernel
theorem d_Md_part_11 : decode c_Md_part 11 = .ok (.getfield 42, 3) := by decide +kernel
theorem d_Md_part_14 : decode c_Md_part 14 = .ok (.aload_n 0, 1) := by decide +kernel
theorem d_Md_part_15 : decode c_Md_part 15 = .ok (.getfield 96, 3) := by decide +kernel
theorem d_Md_part_18 : decode c_Md_part 18 = .ok (.iload_n 2, 1) := by decide +kernel
theorem d_Md_part_19 : decode c_Md_part 19 = .ok (.iastore, 1) := by decide +kernel
theorem d_Md_part_20 : decode c_Md_part 20 = .ok (.aload_n 0, 1) := by decide +kernel
theorem d_Md_part_21 : decode c_Md_part 21 = .ok (.getfield 45, 3) := by decide +kernel
theorem d_Md_part_24 : decode c_Md_part 24 = .ok (.aload_n 0, 1) := by decide +kernel
theorem d_Md_part_25 : decode c_Md_part 25 = .ok (.getfield 96, 3) := by decide +kernel
theorem d_Md_part_28 : decode c_Md_part 28 = .ok (.iload_n 3, 1) := by decide +kernel
theorem d_Md_part_29 : decode c_Md_part 29 = .ok (.iastore, 1) := by decide +kernel
theorem d_Md_part_30 : decode c_Md_part 30 = .ok (.aload_n 0, 1) := by decide +kernel
theorem d_Md_part_31 : decode c_Md_part 31 = .ok (.dup, 1) := by decide +kernel
theorem d_Md_part_32 : decode c_Md_part 32 = .ok (.getfield 96, 3) := by decide +kernel
theorem d_Md_part_35 : decode c_Md_part 35 = .ok (.iconst 1, 1) := by decide +kernel
theorem d_Md_part_36 : decode c_Md_part 36 = .ok (.iadd, 1) := by decide +kernel
theorem d_Md_part_37 : decode c_Md_part 37 = .ok (.putfield 96, 3) := by decide +kernel
theorem d_Md_part_40 : decode c_Md_part 40 = .ok (.aload_n 0, 1) := by decide +kernel
theorem d_Md_part_41 : decode c_Md_part 41 = .ok (.getfield 96, 3) := by decide +kernel
theorem d_Md_part_44 : decode c_Md_part 44 = .ok (.iconst 1, 1) := by decide +kernel
theorem d_Md_part_45 : decode c_Md_part 45 = .ok (.isub, 1) := by decide +kernel
theorem d_Md_part_46 : decode c_Md_part 46 = .ok (.ireturn, 1) := by decide +kernel
theorem d_Md_repeated_0 : decode c_Md_repeated 0 = .ok (.iload_n 1, 1) := by decide +kernel
theorem d_Md_repeated_1 : decode c_Md_repeated 1 = .ok (.istore_n 2, 1) := by decide +kernel
theorem d_Md_repeated_2 : decode c_Md_repeated 2 = .ok (.aload_n 0, 1) := by decide +kernel
theorem d_Md_repeated_3 : decode c_Md_repeated 3 = .ok (.invokevirtual 110, 3) := by decide +kernel
theorem d_Md_repeated_6 : decode c_Md_repeated 6 = .ok (.bipush 42, 2) := by decide +kernel
theorem d_Md_repeated_8 : decode c_Md_repeated 8 = .ok (.if_icmp .eq 21, 3) := by decide +kernel
theorem d_Md_repeated_11 : decode c_Md_repeated 11 = .ok (.aload_n 0, 1) := by decide +kernel
theorem d_Md_repeated_12 : decode c_Md_repeated 12 = .ok (.invokevirtual 110, 3) := by decide +kernel
theorem d_Md_repeated_15 : decode c_Md_repeated 15 = .ok (.bipush 43, 2) := by decide +kernel
theorem d_Md_repeated_17 : decode c_Md_repeated 17 = .ok (.if_icmp .eq 12, 3) := by decide +kernel
theorem d_Md_repeated_20 : decode c_Md_repeated 20 = .ok (.aload_n 0, 1) := by decide +kernel
theorem d_Md_repeated_21 : decode c_Md_repeated 21 = .ok (.invokevirtual 110, 3) := by decide +kernel
theorem d_Md_repeated_24 : decode c_Md_repeated 24 = .ok (.bipush 63, 2) := by decide +kernel
theorem d_Md_repeated_26 : decode c_Md_repeated 26 = .ok (.if_icmp .ne 81, 3) := by decide +kernel
theorem d_Md_repeated_29 : decode c_Md_repeated 29 = .ok (.aload_n 0, 1) := by decide +kernel
theorem d_Md_repeated_30 : decode c_Md_repeated 30 = .ok (.invokevirtual 110, 3) := by decide +kernel
theorem d_Md_repeated_33 : decode c_Md_repeated 33 = .ok (.bipush 63, 2) := by decide +kernel
theorem d_Md_repeated_35 : decode c_Md_repeated 35 = .ok (.if_icmp .eq 19, 3) := by decide +kernel
theorem d_Md_repeated_38 : decode c_Md_repeated 38 = .ok (.aload_n 0, 1) := by decide +kernel
theorem d_Md_repeated_39 : decode c_Md_repeated 39 = .ok (.aload_n 0, 1) := by decide +kernel
theorem d_Md_repeated_40 : decode c_Md_repeated 40 = .ok (.getfield 45, 3) := by decide +kernel
theorem d_Md_repeated_43 : decode c_Md_repeated 43 = .ok (.iload_n 2, 1) := by decide +kernel
theorem d_Md_repeated_44 : decode c_Md_repeated 44 = .ok (.iaload, 1) := by decide +kernel
theorem d_Md_repeated_45 : decode c_Md_repeated 45 = .ok (.aload_n 0, 1) := by decide +kernel
theorem d_Md_repeated_46 : decode c_Md_repeated 46 = .ok (.getfield 42, 3) := by decide +kernel
theorem d_Md_repeated_49 : decode c_Md_repeated 49 = .ok (.iload_n 2, 1) := by decide +kernel
theorem d_Md_repeated_50 : decode c_Md_repeated 50 = .ok (.iaload, 1) := by decide +kernel
theorem d_Md_repeated_51 : decode c_Md_repeated 51 = .ok (.invokevirtual 114, 3) := by decide +kernel
theorem d_Md_repeated_54 : decode c_Md_repeated 54 = .ok (.aload_n 0, 1) := by decide +kernel
theorem d_Md_repeated_55 : decode c_Md_repeated 55 = .ok (.aload_n 0, 1) := by decide +kernel
theorem d_Md_repeated_56 : decode c_Md_repeated 56 = .ok (.getfield 39, 3) := by decide +kernel
theorem d_Md_repeated_59 : decode c_Md_repeated 59 = .ok (.iload_n 2, 1) := by decide +kernel
theorem d_Md_repeated_60 : decode c_Md_repeated 60 = .ok (.baload, 1) := by decide +kernel
theorem d_Md_repeated_61 : decode c_Md_repeated 61 = .ok (.ifCond .ne 12, 3) := by decide +kernel
theorem d_Md_repeated_64 : decode c_Md_repeated 64 = .ok (.aload_n 0, 1) := by decide +kernel
theorem d_Md_repeated_65 : decode c_Md_repeated 65 = .ok (.invokevirtual 110, 3) := by decide +kernel
theorem d_Md_repeated_68 : decode c_Md_repeated 68 = .ok (.bipush 43, 2) := by decide +kernel
theorem d_Md_repeated_70 : decode c_Md_repeated 70 = .ok (.if_icmp .eq 7, 3) := by decide +kernel
theorem d_Md_repeated_73 : decode c_Md_repeated 73 = .ok (.iconst 1, 1) := by decide +kernel
theorem d_Md_repeated_74 : decode c_Md_repeated 74 = .ok (.goto 4, 3) := by decide +kernel
theorem d_Md_repeated_77 : decode c_Md_repeated 77 = .ok (.iconst 0, 1) := by decide +kernel
theorem d_Md_repeated_78 : decode c_Md_repeated 78 = .ok (.aload_n 0, 1) := by decide +kernel
theorem d_Md_repeated_79 : decode c_Md_repeated 79 = .ok (.getfield 42, 3) := by decide +kernel
theorem d_Md_repeated_82 : decode c_Md_repeated 82 = .ok (.iload_n 2, 1) := by decide +kernel
theorem d_Md_repeated_83 : decode c_Md_repeated 83 = .ok (.iaload, 1) := by decide +kernel
theorem d_Md_repeated_84 : decode c_Md_repeated 84 = .ok (.aload_n 0, 1) := by decide +kernel
theorem d_Md_repeated_85 : decode c_Md_repeated 85 = .ok (.getfield 45, 3) := by decide +kernel
theorem d_Md_repeated_88 : decode c_Md_repeated 88 = .ok (.iload_n 2, 1) := by decide +kernel
theorem d_Md_repeated_89 : decode c_Md_repeated 89 = .ok (.iaload, 1) := by decide +kernel
theorem d_Md_repeated_90 : decode c_Md_repeated 90 = .ok (.invokevirtual 107, 3) := by decide +kernel
theorem d_Md_repeated_93 : decode c_Md_repeated 93 = .ok (.istore_n 2, 1) := by decide +kernel
theorem d_Md_repeated_94 : decode c_Md_repeated 94 = .ok (.aload_n 0, 1) := by decide +kernel
theorem d_Md_repeated_95 : decode c_Md_repeated 95 = .ok (.dup, 1) := by decide +kernel
theorem d_Md_repeated_96 : decode c_Md_repeated 96 = .ok (.getfield 93, 3) := by decide +kernel
theorem d_Md_repeated_99 : decode c_Md_repeated 99 = .ok (.iconst 1, 1) := by decide +kernel
theorem d_Md_repeated_100 : decode c_Md_repeated 100 = .ok (.iadd, 1) := by decide +kernel
theorem d_Md_repeated_101 : decode c_Md_repeated 101 = .ok (.putfield 93, 3) := by decide +kernel
theorem d_Md_repeated_104 : decode c_Md_repeated 104 = .ok (.goto (-102), 3) := by decide +kernel
theorem d_Md_repeated_107 : decode c_Md_repeated 107 = .ok (.iload_n 2, 1) := by decide +kernel
theorem d_Md_repeated_108 : decode c_Md_repeated 108 = .ok (.ireturn, 1) := by decide +kernel
theorem d_Md_follows_0 : decode c_Md_follows 0 = .ok (.iconst 0, 1) := by decide +kernel
theorem d_Md_follows_1 : decode c_Md_follows 1 = .ok (.istore_n 3, 1) := by decide +kernel
theorem d_Md_follows_2 : decode c_Md_follows 2 = .ok (.iload_n 3, 1) := by decide +kernel
theorem d_Md_follows_3 : decode c_Md_follows 3 = .ok (.bipush 8, 2) := by decide +kernel
theorem d_Md_follows_5 : decode c_Md_follows 5 = .ok (.if_icmp .ge 32, 3) := by decide +kernel
theorem d_Md_follows_8 : decode c_Md_follows 8 = .ok (.iload_n 1, 1) := by decide +kernel
theorem d_Md_follows_9 : decode c_Md_follows 9 = .ok (.iload_n 3, 1) := by decide +kernel
theorem d_Md_follows_10 : decode c_Md_follows 10 = .ok (.ishr, 1) := by decide +kernel
theorem d_Md_follows_11 : decode c_Md_follows 11 = .ok (.iconst 1, 1) := by decide +kernel
theorem d_Md_follows_12 : decode c_Md_follows 12 = .ok (.iand, 1) := by decide +kernel
theorem d_Md_follows_13 : decode c_Md_follows 13 = .ok (.iconst 1, 1) := by decide +kernel
theorem d_Md_follows_14 : decode c_Md_follows 14 = .ok (.if_icmp .ne 17, 3) := by decide +kernel
theorem d_Md_follows_17 : decode c_Md_follows 17 = .ok (.aload_n 0, 1) := by decide +kernel
theorem d_Md_follows_18 : decode c_Md_follows 18 = .ok (.getfield 51, 3) := by decide +kernel
theorem d_Md_follows_21 : decode c_Md_follows 21 = .ok (.iload_n 3, 1) := by decide +kernel
theorem d_Md_follows_22 : decode c_Md_follows 22 = .ok (.aload_n 0, 1) := by decide +kernel
theorem d_Md_follows_23 : decode c_Md_follows 23 = .ok (.getfield 51, 3) := by decide +kernel
theorem d_Md_follows_26 : decode c_Md_follows 26 = .ok (.iload_n 3, 1) := by decide +kernel
theorem d_Md_follows_27 : decode c_Md_follows 27 = .ok (.iaload, 1) := by decide +kernel
theorem d_Md_follows_28 : decode c_Md_follows 28 = .ok (.iload_n 2, 1) := by decide +kernel
theorem d_Md_follows_29 : decode c_Md_follows 29 = .ok (.ior, 1) := by decide +kernel
theorem d_Md_follows_30 : decode c_Md_follows 30 = .ok (.iastore, 1) := by decide +kernel
theorem d_Md_follows_31 : decode c_Md_follows 31 = .ok (.iinc 3 1, 3) := by decide +kernel
theorem d_Md_follows_34 : decode c_Md_follows 34 = .ok (.goto (-32), 3) := by decide +kernel
theorem d_Md_follows_37 : decode c_Md_follows 37 = .ok (.return_, 1) := by decide +kernel
theorem d_Md_behind_0 : decode c_Md_behind 0 = .ok (.iload_n 1, 1) := by decide +kernel
theorem d_Md_behind_1 : decode c_Md_behind 1 = .ok (.ifCond .ge 5, 3) := by decide +kernel
theorem d_Md_behind_4 : decode c_Md_behind 4 = .ok (.iload_n 2, 1) := by decide +kernel
theorem d_Md_behind_5 : decode c_Md_behind 5 = .ok (.ireturn, 1) := by decide +kernel
theorem d_Md_behind_6 : decode c_Md_behind 6 = .ok (.aload_n 0, 1) := by decide +kernel
theorem d_Md_behind_7 : decode c_Md_behind 7 = .ok (.aload_n 0, 1) := by decide +kernel
theorem d_Md_behind_8 : decode c_Md_behind 8 = .ok (.getfield 45, 3) := by decide +kernel
theorem d_Md_behind_11 : decode c_Md_behind 11 = .ok (.iload_n 1, 1) := by decide +kernel
theorem d_Md_behind_12 : decode c_Md_behind 12 = .ok (.iaload, 1) := by decide +kernel
theorem d_Md_behind_13 : decode c_Md_behind 13 = .ok (.aload_n 0, 1) := by decide +kernel
theorem d_Md_behind_14 : decode c_Md_behind 14 = .ok (.getfield 42, 3) := by decide +kernel
theorem d_Md_behind_17 : decode c_Md_behind 17 = .ok (.iload_n 2, 1) := by decide +kernel
theorem d_Md_behind_18 : decode c_Md_behind 18 = .ok (.iaload, 1) := by decide +kernel
theorem d_Md_behind_19 : decode c_Md_behind 19 = .ok (.invokevirtual 114, 3) := by decide +kernel
theorem d_Md_behind_22 : decode c_Md_behind 22 = .ok (.aload_n 0, 1) := by decide +kernel
theorem d_Md_behind_23 : decode c_Md_behind 23 = .ok (.aload_n 0, 1) := by decide +kernel
theorem d_Md_behind_24 : decode c_Md_behind 24 = .ok (.getfield 39, 3) := by decide +kernel
theorem d_Md_behind_27 : decode c_Md_behind 27 = .ok (.iload_n 1, 1) := by decide +kernel
theorem d_Md_behind_28 : decode c_Md_behind 28 = .ok (.baload, 1) := by decide +kernel
theorem d_Md_behind_29 : decode c_Md_behind 29 = .ok (.ifCond .eq 16, 3) := by decide +kernel
theorem d_Md_behind_32 : decode c_Md_behind 32 = .ok (.aload_n 0, 1) := by decide +kernel
theorem d_Md_behind_33 : decode c_Md_behind 33 = .ok (.getfield 39, 3) := by decide +kernel
theorem d_Md_behind_36 : decode c_Md_behind 36 = .ok (.iload_n 2, 1) := by decide +kernel
theorem d_Md_behind_37 : decode c_Md_behind 37 = .ok (.baload, 1) := by decide +kernel
theorem d_Md_behind_38 : decode c_Md_behind 38 = .ok (.ifCond .eq 7, 3) := by decide +kernel
theorem d_Md_behind_41 : decode c_Md_behind 41 = .ok (.iconst 1, 1) := by decide +kernel
theorem d_Md_behind_42 : decode c_Md_behind 42 = .ok (.goto 4, 3) := by decide +kernel
theorem d_Md_behind_45 : decode c_Md_behind 45 = .ok (.iconst 0, 1) := by decide +kernel
theorem d_Md_behind_46 : decode c_Md_behind 46 = .ok (.aload_n 0, 1) := by decide +kernel
theorem d_Md_behind_47 : decode c_Md_behind 47 = .ok (.getfield 42, 3) := by decide +kernel
theorem d_Md_behind_50 : decode c_Md_behind 50 = .ok (.iload_n 1, 1) := by decide +kernel
theorem d_Md_behind_51 : decode c_Md_behind 51 = .ok (.iaload, 1) := by decide +kernel
theorem d_Md_behind_52 : decode c_Md_behind 52 = .ok (.aload_n 0, 1) := by decide +kernel
theorem d_Md_behind_53 : decode c_Md_behind 53 = .ok (.getfield 39, 3) := by decide +kernel
theorem d_Md_behind_56 : decode c_Md_behind 56 = .ok (.iload_n 1, 1) := by decide +kernel
theorem d_Md_behind_57 : decode c_Md_behind 57 = .ok (.baload, 1) := by decide +kernel
theorem d_Md_behind_58 : decode c_Md_behind 58 = .ok (.ifCond .eq 12, 3) := by decide +kernel
theorem d_Md_behind_61 : decode c_Md_behind 61 = .ok (.aload_n 0, 1) := by decide +kernel
theorem d_Md_behind_62 : decode c_Md_behind 62 = .ok (.getfield 42, 3) := by decide +kernel
theorem d_Md_behind_65 : decode c_Md_behind 65 = .ok (.iload_n 2, 1) := by decide +kernel
theorem d_Md_behind_66 : decode c_Md_behind 66 = .ok (.iaload, 1) := by decide +kernel
theorem d_Md_behind_67 : decode c_Md_behind 67 = .ok (.goto 4, 3) := by decide +kernel
theorem d_Md_behind_70 : decode c_Md_behind 70 = .ok (.iconst 0, 1) := by decide +kernel
theorem d_Md_behind_71 : decode c_Md_behind 71 = .ok (.ior, 1) := by decide +kernel
theorem d_Md_behind_72 : decode c_Md_behind 72 = .ok (.aload_n 0, 1) := by decide +kernel
theorem d_Md_behind_73 : decode c_Md_behind 73 = .ok (.getfield 45, 3) := by decide +kernel
theorem d_Md_behind_76 : decode c_Md_behind 76 = .ok (.iload_n 2, 1) := by decide +kernel
theorem d_Md_behind_77 : decode c_Md_behind 77 = .ok (.iaload, 1) := by decide +kernel
theorem d_Md_behind_78 : decode c_Md_behind 78 = .ok (.aload_n 0, 1) := by decide +kernel
theorem d_Md_behind_79 : decode c_Md_behind 79 = .ok (.getfield 39, 3) := by decide +kernel
theorem d_Md_behind_82 : decode c_Md_behind 82 = .ok (.iload_n 2, 1) := by decide +kernel
theorem d_Md_behind_83 : decode c_Md_behind 83 = .ok (.baload, 1) := by decide +kernel
theorem d_Md_behind_84 : decode c_Md_behind 84 = .ok (.ifCond .eq 12, 3) := by decide +kernel
theorem d_Md_behind_87 : decode c_Md_behind 87 = .ok (.aload_n 0, 1) := by decide +kernel
theorem d_Md_behind_88 : decode c_Md_behind 88 = .ok (.getfield 45, 3) := by decide +kernel
theorem d_Md_behind_91 : decode c_Md_behind 91 = .ok (.iload_n 1, 1) := by decide +kernel
theorem d_Md_behind_92 : decode c_Md_behind 92 = .ok (.iaload, 1) := by decide +kernel
theorem d_Md_behind_93 : decode c_Md_behind 93 = .ok (.goto 4, 3) := by decide +kernel
theorem d_Md_behind_96 : decode c_Md_behind 96 = .ok (.iconst 0, 1) := by decide +kernel
theorem d_Md_behind_97 : decode c_Md_behind 97 = .ok (.ior, 1) := by decide +kernel
theorem d_Md_behind_98 : decode c_Md_behind 98 = .ok (.invokevirtual 107, 3) := by decide +kernel
theorem d_Md_behind_101 : decode c_Md_behind 101 = .ok (.ireturn, 1) := by decide +kernel
theorem d_Md_either_0 : decode c_Md_either 0 = .ok (.iload_n 1, 1) := by decide +kernel
theorem d_Md_either_1 : decode c_Md_either 1 = .ok (.ifCond .ge 7, 3) := by decide +kernel
theorem d_Md_either_4 : decode c_Md_either 4 = .ok (.iload_n 2, 1) := by decide +kernel
theorem d_Md_either_5 : decode c_Md_either 5 = .ok (.goto 56, 3) := by decide +kernel
theorem d_Md_either_8 : decode c_Md_either 8 = .ok (.aload_n 0, 1) := by decide +kernel
theorem d_Md_either_9 : decode c_Md_either 9 = .ok (.aload_n 0, 1) := by decide +kernel
theorem d_Md_either_10 : decode c_Md_either 10 = .ok (.getfield 39, 3) := by decide +kernel
theorem d_Md_either_13 : decode c_Md_either 13 = .ok (.iload_n 1, 1) := by decide +kernel
theorem d_Md_either_14 : decode c_Md_either 14 = .ok (.baload, 1) := by decide +kernel
theorem d_Md_either_15 : decode c_Md_either 15 = .ok (.ifCond .ne 12, 3) := by decide +kernel
theorem d_Md_either_18 : decode c_Md_either 18 = .ok (.aload_n 0, 1) := by decide +kernel
theorem d_Md_either_19 : decode c_Md_either 19 = .ok (.getfield 39, 3) := by decide +kernel
theorem d_Md_either_22 : decode c_Md_either 22 = .ok (.iload_n 2, 1) := by decide +kernel
theorem d_Md_either_23 : decode c_Md_either 23 = .ok (.baload, 1) := by decide +kernel
theorem d_Md_either_24 : decode c_Md_either 24 = .ok (.ifCond .eq 7, 3) := by decide +kernel
theorem d_Md_either_27 : decode c_Md_either 27 = .ok (.iconst 1, 1) := by decide +kernel
theorem d_Md_either_28 : decode c_Md_either 28 = .ok (.goto 4, 3) := by decide +kernel
theorem d_Md_either_31 : decode c_Md_either 31 = .ok (.iconst 0, 1) := by decide +kernel
theorem d_Md_either_32 : decode c_Md_either 32 = .ok (.aload_n 0, 1) := by decide +kernel
theorem d_Md_either_33 : decode c_Md_either 33 = .ok (.getfield 42, 3) := by decide +kernel
theorem d_Md_either_36 : decode c_Md_either 36 = .ok (.iload_n 1, 1) := by decide +kernel
theorem d_Md_either_37 : decode c_Md_either 37 = .ok (.iaload, 1) := by decide +kernel
theorem d_Md_either_38 : decode c_Md_either 38 = .ok (.aload_n 0, 1) := by decide +kernel
theorem d_Md_either_39 : decode c_Md_either 39 = .ok (.getfield 42, 3) := by decide +kernel
theorem d_Md_either_42 : decode c_Md_either 42 = .ok (.iload_n 2, 1) := by decide +kernel
theorem d_Md_either_43 : decode c_Md_either 43 = .ok (.iaload, 1) := by decide +kernel
theorem d_Md_either_44 : decode c_Md_either 44 = .ok (.ior, 1) := by decide +kernel
theorem d_Md_either_45 : decode c_Md_either 45 = .ok (.aload_n 0, 1) := by decide +kernel
theorem d_Md_either_46 : decode c_Md_either 46 = .ok (.getfield 45, 3) := by decide +kernel
theorem d_Md_either_49 : decode c_Md_either 49 = .ok (.iload_n 1, 1) := by decide +kernel
theorem d_Md_either_50 : decode c_Md_either 50 = .ok (.iaload, 1) := by decide +kernel
theorem d_Md_either_51 : decode c_Md_either 51 = .ok (.aload_n 0, 1) := by decide +kernel
theorem d_Md_either_52 : decode c_Md_either 52 = .ok (.getfield 45, 3) := by decide +kernel
theorem d_Md_either_55 : decode c_Md_either 55 = .ok (.iload_n 2, 1) := by decide +kernel
theorem d_Md_either_56 : decode c_Md_either 56 = .ok (.iaload, 1) := by decide +kernel
theorem d_Md_either_57 : decode c_Md_either 57 = .ok (.ior, 1) := by decide +kernel
theorem d_Md_either_58 : decode c_Md_either 58 = .ok (.invokevirtual 107, 3) := by decide +kernel
theorem d_Md_either_61 : decode c_Md_either 61 = .ok (.ireturn, 1) := by decide +kernel
theorem d_Md_says_0 : decode c_Md_says 0 = .ok (.aload_n 0, 1) := by decide +kernel
theorem d_Md_says_1 : decode c_Md_says 1 = .ok (.iload_n 1, 1) := by decide +kernel
theorem d_Md_says_2 : decode c_Md_says 2 = .ok (.ifCond .eq 7, 3) := by decide +kernel
theorem d_Md_says_5 : decode c_Md_says 5 = .ok (.iconst 0, 1) := by decide +kernel
theorem d_Md_says_6 : decode c_Md_says 6 = .ok (.goto 4, 3) := by decide +kernel
theorem d_Md_says_9 : decode c_Md_says 9 = .ok (.iconst 1, 1) := by decide +kernel
theorem d_Md_says_10 : decode c_Md_says 10 = .ok (.putfield 83, 3) := by decide +kernel
theorem d_Md_says_13 : decode c_Md_says 13 = .ok (.iload_n 1, 1) := by decide +kernel
theorem d_Md_says_14 : decode c_Md_says 14 = .ok (.ireturn, 1) := by decide +kernel
theorem d_Md_place_0 : decode c_Md_place 0 = .ok (.aload_n 0, 1) := by decide +kernel
theorem d_Md_place_1 : decode c_Md_place 1 = .ok (.iconst 0, 1) := by decide +kernel
theorem d_Md_place_2 : decode c_Md_place 2 = .ok (.putfield 83, 3) := by decide +kernel
theorem d_Md_place_5 : decode c_Md_place 5 = .ok (.aload_n 0, 1) := by decide +kernel
theorem d_Md_place_6 : decode c_Md_place 6 = .ok (.getfield 13, 3) := by decide +kernel
theorem d_Md_place_9 : decode c_Md_place 9 = .ok (.ireturn, 1) := by decide +kernel
theorem d_Md_has_0 : decode c_Md_has 0 = .ok (.iload_n 1, 1) := by decide +kernel
theorem d_Md_has_1 : decode c_Md_has 1 = .ok (.invokestatic 135, 3) := by decide +kernel
theorem d_Md_has_4 : decode c_Md_has 4 = .ok (.istore_n 2, 1) := by decide +kernel
theorem d_Md_has_5 : decode c_Md_has 5 = .ok (.sipush 256, 3) := by decide +kernel
theorem d_Md_has_8 : decode c_Md_has 8 = .ok (.istore_n 3, 1) := by decide +kernel
theorem d_Md_has_9 : decode c_Md_has 9 = .ok (.iconst 0, 1) := by decide +kernel
theorem d_Md_has_10 : decode c_Md_has 10 = .ok (.istore 4, 2) := by decide +kernel
theorem d_Md_has_12 : decode c_Md_has 12 = .ok (.iload 4, 2) := by decide +kernel
theorem d_Md_has_14 : decode c_Md_has 14 = .ok (.aload_n 0, 1) := by decide +kernel
theorem d_Md_has_15 : decode c_Md_has 15 = .ok (.getfield 90, 3) := by decide +kernel
theorem d_Md_has_18 : decode c_Md_has 18 = .ok (.if_icmp .ge 52, 3) := by decide +kernel
theorem d_Md_has_21 : decode c_Md_has 21 = .ok (.aload_n 0, 1) := by decide +kernel
theorem d_Md_has_22 : decode c_Md_has 22 = .ok (.getfield 9, 3) := by decide +kernel
theorem d_Md_has_25 : decode c_Md_has 25 = .ok (.iload 4, 2) := by decide +kernel
theorem d_Md_has_27 : decode c_Md_has 27 = .ok (.iaload, 1) := by decide +kernel
theorem d_Md_has_28 : decode c_Md_has 28 = .ok (.bipush 97, 2) := by decide +kernel
theorem d_Md_has_30 : decode c_Md_has 30 = .ok (.bipush 100, 2) := by decide +kernel
theorem d_Md_has_32 : decode c_Md_has 32 = .ok (.invokestatic 86, 3) := by decide +kernel
theorem d_Md_has_35 : decode c_Md_has 35 = .ok (.ifCond .ne 8, 3) := by decide +kernel
theorem d_Md_has_38 : decode c_Md_has 38 = .ok (.iconst 0, 1) := by decide +kernel
theorem d_Md_has_39 : decode c_Md_has 39 = .ok (.istore_n 2, 1) := by decide +kernel
theorem d_Md_has_40 : decode c_Md_has 40 = .ok (.goto 24, 3) := by decide +kernel
theorem d_Md_has_43 : decode c_Md_has 43 = .ok (.iload_n 2, 1) := by decide +kernel
theorem d_Md_has_44 : decode c_Md_has 44 = .ok (.ifCond .eq 20, 3) := by decide +kernel
theorem d_Md_has_47 : decode c_Md_has 47 = .ok (.aload_n 0, 1) := by decide +kernel
theorem d_Md_has_48 : decode c_Md_has 48 = .ok (.iload_n 1, 1) := by decide +kernel
theorem d_Md_has_49 : decode c_Md_has 49 = .ok (.iload_n 3, 1) := by decide +kernel
theorem d_Md_has_50 : decode c_Md_has 50 = .ok (.aload_n 0, 1) := by decide +kernel
theorem d_Md_has_51 : decode c_Md_has 51 = .ok (.getfield 9, 3) := by decide +kernel
theorem d_Md_has_54 : decode c_Md_has 54 = .ok (.iload 4, 2) := by decide +kernel
theorem d_Md_has_56 : decode c_Md_has 56 = .ok (.iaload, 1) := by decide +kernel
theorem d_Md_has_57 : decode c_Md_has 57 = .ok (.bipush 97, 2) := by decide +kernel
theorem d_Md_has_59 : decode c_Md_has 59 = .ok (.isub, 1) := by decide +kernel
theorem d_Md_has_60 : decode c_Md_has 60 = .ok (.invokevirtual 146, 3) := by decide +kernel
theorem d_Md_has_63 : decode c_Md_has 63 = .ok (.istore_n 3, 1) := by decide +kernel
theorem d_Md_has_64 : decode c_Md_has 64 = .ok (.iinc 4 1, 3) := by decide +kernel
theorem d_Md_has_67 : decode c_Md_has 67 = .ok (.goto (-55), 3) := by decide +kernel
theorem d_Md_has_70 : decode c_Md_has 70 = .ok (.aload_n 0, 1) := by decide +kernel
theorem d_Md_has_71 : decode c_Md_has 71 = .ok (.iconst 0, 1) := by decide +kernel
theorem d_Md_has_72 : decode c_Md_has 72 = .ok (.putfield 90, 3) := by decide +kernel
theorem d_Md_has_75 : decode c_Md_has 75 = .ok (.aload_n 0, 1) := by decide +kernel
theorem d_Md_has_76 : decode c_Md_has 76 = .ok (.iload_n 2, 1) := by decide +kernel
theorem d_Md_has_77 : decode c_Md_has 77 = .ok (.invokevirtual 142, 3) := by decide +kernel
theorem d_Md_has_80 : decode c_Md_has 80 = .ok (.ifCond .eq 16, 3) := by decide +kernel
theorem d_Md_has_83 : decode c_Md_has 83 = .ok (.aload_n 0, 1) := by decide +kernel
theorem d_Md_has_84 : decode c_Md_has 84 = .ok (.iload_n 1, 1) := by decide +kernel
theorem d_Md_has_85 : decode c_Md_has 85 = .ok (.iload_n 3, 1) := by decide +kernel
theorem d_Md_has_86 : decode c_Md_has 86 = .ok (.invokevirtual 150, 3) := by decide +kernel
theorem d_Md_has_89 : decode c_Md_has 89 = .ok (.ifCond .eq 7, 3) := by decide +kernel
theorem d_Md_has_92 : decode c_Md_has 92 = .ok (.iconst 1, 1) := by decide +kernel
theorem d_Md_has_93 : decode c_Md_has 93 = .ok (.goto 4, 3) := by decide +kernel
theorem d_Md_has_96 : decode c_Md_has 96 = .ok (.iconst 0, 1) := by decide +kernel
theorem d_Md_has_97 : decode c_Md_has 97 = .ok (.ireturn, 1) := by decide +kernel
theorem d_Md_step_0 : decode c_Md_step 0 = .ok (.iload_n 2, 1) := by decide +kernel
theorem d_Md_step_1 : decode c_Md_step 1 = .ok (.sipush 256, 3) := by decide +kernel
theorem d_Md_step_4 : decode c_Md_step 4 = .ok (.if_icmp .ne 12, 3) := by decide +kernel
theorem d_Md_step_7 : decode c_Md_step 7 = .ok (.aload_n 0, 1) := by decide +kernel
theorem d_Md_step_8 : decode c_Md_step 8 = .ok (.getfield 23, 3) := by decide +kernel
theorem d_Md_step_11 : decode c_Md_step 11 = .ok (.iload_n 1, 1) := by decide +kernel
theorem d_Md_step_12 : decode c_Md_step 12 = .ok (.iaload, 1) := by decide +kernel
theorem d_Md_step_13 : decode c_Md_step 13 = .ok (.goto 4, 3) := by decide +kernel
theorem d_Md_step_16 : decode c_Md_step 16 = .ok (.iconst 0, 1) := by decide +kernel
theorem d_Md_step_17 : decode c_Md_step 17 = .ok (.istore 4, 2) := by decide +kernel
theorem d_Md_step_19 : decode c_Md_step 19 = .ok (.iconst 0, 1) := by decide +kernel
theorem d_Md_step_20 : decode c_Md_step 20 = .ok (.istore 5, 2) := by decide +kernel
theorem d_Md_step_22 : decode c_Md_step 22 = .ok (.iload 5, 2) := by decide +kernel
theorem d_Md_step_24 : decode c_Md_step 24 = .ok (.aload_n 0, 1) := by decide +kernel
theorem d_Md_step_25 : decode c_Md_step 25 = .ok (.getfield 17, 3) := by decide +kernel
theorem d_Md_step_28 : decode c_Md_step 28 = .ok (.iload_n 1, 1) := by decide +kernel
theorem d_Md_step_29 : decode c_Md_step 29 = .ok (.iaload, 1) := by decide +kernel
theorem d_Md_step_30 : decode c_Md_step 30 = .ok (.if_icmp .ge 43, 3) := by decide +kernel
theorem d_Md_step_33 : decode c_Md_step 33 = .ok (.iload_n 2, 1) := by decide +kernel
theorem d_Md_step_34 : decode c_Md_step 34 = .ok (.sipush 256, 3) := by decide +kernel
theorem d_Md_step_37 : decode c_Md_step 37 = .ok (.if_icmp .eq 36, 3) := by decide +kernel
theorem d_Md_step_40 : decode c_Md_step 40 = .ok (.iload_n 2, 1) := by decide +kernel
theorem d_Md_step_41 : decode c_Md_step 41 = .ok (.iload 5, 2) := by decide +kernel
theorem d_Md_step_43 : decode c_Md_step 43 = .ok (.ishr, 1) := by decide +kernel
theorem d_Md_step_44 : decode c_Md_step 44 = .ok (.iconst 1, 1) := by decide +kernel
theorem d_Md_step_45 : decode c_Md_step 45 = .ok (.iand, 1) := by decide +kernel
theorem d_Md_step_46 : decode c_Md_step 46 = .ok (.iconst 1, 1) := by decide +kernel
theorem d_Md_step_47 : decode c_Md_step 47 = .ok (.if_icmp .ne 20, 3) := by decide +kernel
theorem d_Md_step_50 : decode c_Md_step 50 = .ok (.iload 4, 2) := by decide +kernel
theorem d_Md_step_52 : decode c_Md_step 52 = .ok (.aload_n 0, 1) := by decide +kernel
theorem d_Md_step_53 : decode c_Md_step 53 = .ok (.getfield 29, 3) := by decide +kernel
theorem d_Md_step_56 : decode c_Md_step 56 = .ok (.iload_n 1, 1) := by decide +kernel
theorem d_Md_step_57 : decode c_Md_step 57 = .ok (.bipush 8, 2) := by decide +kernel
theorem d_Md_step_59 : decode c_Md_step 59 = .ok (.imul, 1) := by decide +kernel
theorem d_Md_step_60 : decode c_Md_step 60 = .ok (.iload 5, 2) := by decide +kernel
theorem d_Md_step_62 : decode c_Md_step 62 = .ok (.iadd, 1) := by decide +kernel
theorem d_Md_step_63 : decode c_Md_step 63 = .ok (.iaload, 1) := by decide +kernel
theorem d_Md_step_64 : decode c_Md_step 64 = .ok (.ior, 1) := by decide +kernel
theorem d_Md_step_65 : decode c_Md_step 65 = .ok (.istore 4, 2) := by decide +kernel
theorem d_Md_step_67 : decode c_Md_step 67 = .ok (.iinc 5 1, 3) := by decide +kernel
theorem d_Md_step_70 : decode c_Md_step 70 = .ok (.goto (-48), 3) := by decide +kernel
theorem d_Md_step_73 : decode c_Md_step 73 = .ok (.iconst 0, 1) := by decide +kernel
theorem d_Md_step_74 : decode c_Md_step 74 = .ok (.istore 5, 2) := by decide +kernel
theorem d_Md_step_76 : decode c_Md_step 76 = .ok (.iconst 0, 1) := by decide +kernel
theorem d_Md_step_77 : decode c_Md_step 77 = .ok (.istore 6, 2) := by decide +kernel
theorem d_Md_step_79 : decode c_Md_step 79 = .ok (.iload 6, 2) := by decide +kernel
theorem d_Md_step_81 : decode c_Md_step 81 = .ok (.aload_n 0, 1) := by decide +kernel
theorem d_Md_step_82 : decode c_Md_step 82 = .ok (.getfield 17, 3) := by decide +kernel
theorem d_Md_step_85 : decode c_Md_step 85 = .ok (.iload_n 1, 1) := by decide +kernel
theorem d_Md_step_86 : decode c_Md_step 86 = .ok (.iaload, 1) := by decide +kernel
theorem d_Md_step_87 : decode c_Md_step 87 = .ok (.if_icmp .ge 45, 3) := by decide +kernel
theorem d_Md_step_90 : decode c_Md_step 90 = .ok (.iload 4, 2) := by decide +kernel
theorem d_Md_step_92 : decode c_Md_step 92 = .ok (.iload 6, 2) := by decide +kernel
theorem d_Md_step_94 : decode c_Md_step 94 = .ok (.ishr, 1) := by decide +kernel
theorem d_Md_step_95 : decode c_Md_step 95 = .ok (.iconst 1, 1) := by decide +kernel
theorem d_Md_step_96 : decode c_Md_step 96 = .ok (.iand, 1) := by decide +kernel
theorem d_Md_step_97 : decode c_Md_step 97 = .ok (.iconst 1, 1) := by decide +kernel
theorem d_Md_step_98 : decode c_Md_step 98 = .ok (.if_icmp .ne 28, 3) := by decide +kernel
theorem d_Md_step_101 : decode c_Md_step 101 = .ok (.aload_n 0, 1) := by decide +kernel
theorem d_Md_step_102 : decode c_Md_step 102 = .ok (.getfield 20, 3) := by decide +kernel
theorem d_Md_step_105 : decode c_Md_step 105 = .ok (.iload_n 1, 1) := by decide +kernel
theorem d_Md_step_106 : decode c_Md_step 106 = .ok (.bipush 8, 2) := by decide +kernel
theorem d_Md_step_108 : decode c_Md_step 108 = .ok (.imul, 1) := by decide +kernel
theorem d_Md_step_109 : decode c_Md_step 109 = .ok (.iload 6, 2) := by decide +kernel
theorem d_Md_step_111 : decode c_Md_step 111 = .ok (.iadd, 1) := by decide +kernel
theorem d_Md_step_112 : decode c_Md_step 112 = .ok (.iaload, 1) := by decide +kernel
theorem d_Md_step_113 : decode c_Md_step 113 = .ok (.iload_n 3, 1) := by decide +kernel
theorem d_Md_step_114 : decode c_Md_step 114 = .ok (.if_icmp .ne 12, 3) := by decide +kernel
theorem d_Md_step_117 : decode c_Md_step 117 = .ok (.iload 5, 2) := by decide +kernel
theorem d_Md_step_119 : decode c_Md_step 119 = .ok (.iconst 1, 1) := by decide +kernel
theorem d_Md_step_120 : decode c_Md_step 120 = .ok (.iload 6, 2) := by decide +kernel
theorem d_Md_step_122 : decode c_Md_step 122 = .ok (.ishl, 1) := by decide +kernel
theorem d_Md_step_123 : decode c_Md_step 123 = .ok (.ior, 1) := by decide +kernel
theorem d_Md_step_124 : decode c_Md_step 124 = .ok (.istore 5, 2) := by decide +kernel
theorem d_Md_step_126 : decode c_Md_step 126 = .ok (.iinc 6 1, 3) := by decide +kernel
theorem d_Md_step_129 : decode c_Md_step 129 = .ok (.goto (-50), 3) := by decide +kernel
theorem d_Md_step_132 : decode c_Md_step 132 = .ok (.iload 5, 2) := by decide +kernel
theorem d_Md_step_134 : decode c_Md_step 134 = .ok (.ireturn, 1) := by decide +kernel
theorem d_Md_tells_0 : decode c_Md_tells 0 = .ok (.iload_n 2, 1) := by decide +kernel
theorem d_Md_tells_1 : decode c_Md_tells 1 = .ok (.sipush 256, 3) := by decide +kernel
theorem d_Md_tells_4 : decode c_Md_tells 4 = .ok (.if_icmp .ne 12, 3) := by decide +kernel
theorem d_Md_tells_7 : decode c_Md_tells 7 = .ok (.aload_n 0, 1) := by decide +kernel
theorem d_Md_tells_8 : decode c_Md_tells 8 = .ok (.getfield 32, 3) := by decide +kernel
theorem d_Md_tells_11 : decode c_Md_tells 11 = .ok (.iload_n 1, 1) := by decide +kernel
theorem d_Md_tells_12 : decode c_Md_tells 12 = .ok (.baload, 1) := by decide +kernel
theorem d_Md_tells_13 : decode c_Md_tells 13 = .ok (.goto 19, 3) := by decide +kernel
theorem d_Md_tells_16 : decode c_Md_tells 16 = .ok (.iload_n 2, 1) := by decide +kernel
theorem d_Md_tells_17 : decode c_Md_tells 17 = .ok (.aload_n 0, 1) := by decide +kernel
theorem d_Md_tells_18 : decode c_Md_tells 18 = .ok (.getfield 26, 3) := by decide +kernel
theorem d_Md_tells_21 : decode c_Md_tells 21 = .ok (.iload_n 1, 1) := by decide +kernel
theorem d_Md_tells_22 : decode c_Md_tells 22 = .ok (.iaload, 1) := by decide +kernel
theorem d_Md_tells_23 : decode c_Md_tells 23 = .ok (.iand, 1) := by decide +kernel
theorem d_Md_tells_24 : decode c_Md_tells 24 = .ok (.ifCond .eq 7, 3) := by decide +kernel
theorem d_Md_tells_27 : decode c_Md_tells 27 = .ok (.iconst 1, 1) := by decide +kernel
theorem d_Md_tells_28 : decode c_Md_tells 28 = .ok (.goto 4, 3) := by decide +kernel
theorem d_Md_tells_31 : decode c_Md_tells 31 = .ok (.iconst 0, 1) := by decide +kernel
theorem d_Md_tells_32 : decode c_Md_tells 32 = .ok (.ireturn, 1) := by decide +kernel
theorem d_Md_compare_0 : decode c_Md_compare 0 = .ok (.aload_n 0, 1) := by decide +kernel
theorem d_Md_compare_1 : decode c_Md_compare 1 = .ok (.iload_n 1, 1) := by decide +kernel
theorem d_Md_compare_2 : decode c_Md_compare 2 = .ok (.invokestatic 135, 3) := by decide +kernel
theorem d_Md_compare_5 : decode c_Md_compare 5 = .ok (.ifCond .eq 14, 3) := by decide +kernel
theorem d_Md_compare_8 : decode c_Md_compare 8 = .ok (.iload_n 2, 1) := by decide +kernel
theorem d_Md_compare_9 : decode c_Md_compare 9 = .ok (.invokestatic 135, 3) := by decide +kernel
theorem d_Md_compare_12 : decode c_Md_compare 12 = .ok (.ifCond .eq 7, 3) := by decide +kernel
theorem d_Md_compare_15 : decode c_Md_compare 15 = .ok (.iconst 1, 1) := by decide +kernel
theorem d_Md_compare_16 : decode c_Md_compare 16 = .ok (.goto 4, 3) := by decide +kernel
theorem d_Md_compare_19 : decode c_Md_compare 19 = .ok (.iconst 0, 1) := by decide +kernel
theorem d_Md_compare_20 : decode c_Md_compare 20 = .ok (.invokevirtual 142, 3) := by decide +kernel
theorem d_Md_compare_23 : decode c_Md_compare 23 = .ok (.ifCond .ne 5, 3) := by decide +kernel
theorem d_Md_compare_26 : decode c_Md_compare 26 = .ok (.iconst 0, 1) := by decide +kernel
theorem d_Md_compare_27 : decode c_Md_compare 27 = .ok (.ireturn, 1) := by decide +kernel
theorem d_Md_compare_28 : decode c_Md_compare 28 = .ok (.aload_n 0, 1) := by decide +kernel
theorem d_Md_compare_29 : decode c_Md_compare 29 = .ok (.iload_n 1, 1) := by decide +kernel
theorem d_Md_compare_30 : decode c_Md_compare 30 = .ok (.iload_n 2, 1) := by decide +kernel
theorem d_Md_compare_31 : decode c_Md_compare 31 = .ok (.iconst 1, 1) := by decide +kernel
theorem d_Md_compare_32 : decode c_Md_compare 32 = .ok (.invokevirtual 158, 3) := by decide +kernel
theorem d_Md_compare_35 : decode c_Md_compare 35 = .ok (.istore_n 3, 1) := by decide +kernel
theorem d_Md_compare_36 : decode c_Md_compare 36 = .ok (.aload_n 0, 1) := by decide +kernel
theorem d_Md_compare_37 : decode c_Md_compare 37 = .ok (.iconst 0, 1) := by decide +kernel
theorem d_Md_compare_38 : decode c_Md_compare 38 = .ok (.putfield 154, 3) := by decide +kernel
theorem d_Md_compare_41 : decode c_Md_compare 41 = .ok (.iload_n 3, 1) := by decide +kernel
theorem d_Md_compare_42 : decode c_Md_compare 42 = .ok (.ifCond .ge 5, 3) := by decide +kernel
theorem d_Md_compare_45 : decode c_Md_compare 45 = .ok (.iconst 0, 1) := by decide +kernel
theorem d_Md_compare_46 : decode c_Md_compare 46 = .ok (.ireturn, 1) := by decide +kernel
theorem d_Md_compare_47 : decode c_Md_compare 47 = .ok (.aload_n 0, 1) := by decide +kernel
theorem d_Md_compare_48 : decode c_Md_compare 48 = .ok (.iload_n 3, 1) := by decide +kernel
theorem d_Md_compare_49 : decode c_Md_compare 49 = .ok (.invokevirtual 161, 3) := by decide +kernel
theorem d_Md_compare_52 : decode c_Md_compare 52 = .ok (.aload_n 0, 1) := by decide +kernel
theorem d_Md_compare_53 : decode c_Md_compare 53 = .ok (.iload_n 1, 1) := by decide +kernel
theorem d_Md_compare_54 : decode c_Md_compare 54 = .ok (.aload_n 0, 1) := by decide +kernel
theorem d_Md_compare_55 : decode c_Md_compare 55 = .ok (.getfield 55, 3) := by decide +kernel
theorem d_Md_compare_58 : decode c_Md_compare 58 = .ok (.iload_n 3, 1) := by decide +kernel
theorem d_Md_compare_59 : decode c_Md_compare 59 = .ok (.iaload, 1) := by decide +kernel
theorem d_Md_compare_60 : decode c_Md_compare 60 = .ok (.sipush 257, 3) := by decide +kernel
theorem d_Md_compare_63 : decode c_Md_compare 63 = .ok (.idiv, 1) := by decide +kernel
theorem d_Md_compare_64 : decode c_Md_compare 64 = .ok (.invokevirtual 150, 3) := by decide +kernel
theorem d_Md_compare_67 : decode c_Md_compare 67 = .ok (.ifCond .eq 7, 3) := by decide +kernel
theorem d_Md_compare_70 : decode c_Md_compare 70 = .ok (.iconst 1, 1) := by decide +kernel
theorem d_Md_compare_71 : decode c_Md_compare 71 = .ok (.goto 4, 3) := by decide +kernel
theorem d_Md_compare_74 : decode c_Md_compare 74 = .ok (.iconst 2, 1) := by decide +kernel
theorem d_Md_compare_75 : decode c_Md_compare 75 = .ok (.ireturn, 1) := by decide +kernel
theorem d_Md_seek_0 : decode c_Md_seek 0 = .ok (.iconst 0, 1) := by decide +kernel
theorem d_Md_seek_1 : decode c_Md_seek 1 = .ok (.istore 4, 2) := by decide +kernel
theorem d_Md_seek_3 : decode c_Md_seek 3 = .ok (.iload 4, 2) := by decide +kernel
theorem d_Md_seek_5 : decode c_Md_seek 5 = .ok (.ldc 54, 2) := by decide +kernel
theorem d_Md_seek_7 : decode c_Md_seek 7 = .ok (.if_icmp .ge 17, 3) := by decide +kernel
theorem d_Md_seek_10 : decode c_Md_seek 10 = .ok (.aload_n 0, 1) := by decide +kernel
theorem d_Md_seek_11 : decode c_Md_seek 11 = .ok (.getfield 64, 3) := by decide +kernel
theorem d_Md_seek_14 : decode c_Md_seek 14 = .ok (.iload 4, 2) := by decide +kernel
theorem d_Md_seek_16 : decode c_Md_seek 16 = .ok (.iconst 0, 1) := by decide +kernel
theorem d_Md_seek_17 : decode c_Md_seek 17 = .ok (.bastore, 1) := by decide +kernel
theorem d_Md_seek_18 : decode c_Md_seek 18 = .ok (.iinc 4 1, 3) := by decide +kernel
theorem d_Md_seek_21 : decode c_Md_seek 21 = .ok (.goto (-18), 3) := by decide +kernel
theorem d_Md_seek_24 : decode c_Md_seek 24 = .ok (.iconst 1, 1) := by decide +kernel
theorem d_Md_seek_25 : decode c_Md_seek 25 = .ok (.istore 4, 2) := by decide +kernel
theorem d_Md_seek_27 : decode c_Md_seek 27 = .ok (.aload_n 0, 1) := by decide +kernel
theorem d_Md_seek_28 : decode c_Md_seek 28 = .ok (.getfield 55, 3) := by decide +kernel
theorem d_Md_seek_31 : decode c_Md_seek 31 = .ok (.iconst 0, 1) := by decide +kernel
theorem d_Md_seek_32 : decode c_Md_seek 32 = .ok (.ldc 157, 2) := by decide +kernel
theorem d_Md_seek_34 : decode c_Md_seek 34 = .ok (.iastore, 1) := by decide +kernel
theorem d_Md_seek_35 : decode c_Md_seek 35 = .ok (.aload_n 0, 1) := by decide +kernel
theorem d_Md_seek_36 : decode c_Md_seek 36 = .ok (.getfield 58, 3) := by decide +kernel
theorem d_Md_seek_39 : decode c_Md_seek 39 = .ok (.iconst 0, 1) := by decide +kernel
theorem d_Md_seek_40 : decode c_Md_seek 40 = .ok (.iconst (-1), 1) := by decide +kernel
theorem d_Md_seek_41 : decode c_Md_seek 41 = .ok (.iastore, 1) := by decide +kernel
theorem d_Md_seek_42 : decode c_Md_seek 42 = .ok (.aload_n 0, 1) := by decide +kernel
theorem d_Md_seek_43 : decode c_Md_seek 43 = .ok (.getfield 64, 3) := by decide +kernel
theorem d_Md_seek_46 : decode c_Md_seek 46 = .ok (.aload_n 0, 1) := by decide +kernel
theorem d_Md_seek_47 : decode c_Md_seek 47 = .ok (.getfield 55, 3) := by decide +kernel
theorem d_Md_seek_50 : decode c_Md_seek 50 = .ok (.iconst 0, 1) := by decide +kernel
theorem d_Md_seek_51 : decode c_Md_seek 51 = .ok (.iaload, 1) := by decide +kernel
theorem d_Md_seek_52 : decode c_Md_seek 52 = .ok (.iconst 1, 1) := by decide +kernel
theorem d_Md_seek_53 : decode c_Md_seek 53 = .ok (.bastore, 1) := by decide +kernel
theorem d_Md_seek_54 : decode c_Md_seek 54 = .ok (.iconst 0, 1) := by decide +kernel
theorem d_Md_seek_55 : decode c_Md_seek 55 = .ok (.istore 5, 2) := by decide +kernel
theorem d_Md_seek_57 : decode c_Md_seek 57 = .ok (.iload 5, 2) := by decide +kernel
theorem d_Md_seek_59 : decode c_Md_seek 59 = .ok (.iload 4, 2) := by decide +kernel
theorem d_Md_seek_61 : decode c_Md_seek 61 = .ok (.if_icmp .ge 185, 3) := by decide +kernel
theorem d_Md_seek_64 : decode c_Md_seek 64 = .ok (.aload_n 0, 1) := by decide +kernel
theorem d_Md_seek_65 : decode c_Md_seek 65 = .ok (.getfield 55, 3) := by decide +kernel
theorem d_Md_seek_68 : decode c_Md_seek 68 = .ok (.iload 5, 2) := by decide +kernel
theorem d_Md_seek_70 : decode c_Md_seek 70 = .ok (.iaload, 1) := by decide +kernel
theorem d_Md_seek_71 : decode c_Md_seek 71 = .ok (.sipush 257, 3) := by decide +kernel
theorem d_Md_seek_74 : decode c_Md_seek 74 = .ok (.idiv, 1) := by decide +kernel
theorem d_Md_seek_75 : decode c_Md_seek 75 = .ok (.istore 6, 2) := by decide +kernel
theorem d_Md_seek_77 : decode c_Md_seek 77 = .ok (.aload_n 0, 1) := by decide +kernel
theorem d_Md_seek_78 : decode c_Md_seek 78 = .ok (.getfield 55, 3) := by decide +kernel
theorem d_Md_seek_81 : decode c_Md_seek 81 = .ok (.iload 5, 2) := by decide +kernel
theorem d_Md_seek_83 : decode c_Md_seek 83 = .ok (.iaload, 1) := by decide +kernel
theorem d_Md_seek_84 : decode c_Md_seek 84 = .ok (.sipush 257, 3) := by decide +kernel
theorem d_Md_seek_87 : decode c_Md_seek 87 = .ok (.irem, 1) := by decide +kernel
theorem d_Md_seek_88 : decode c_Md_seek 88 = .ok (.istore 7, 2) := by decide +kernel
theorem d_Md_seek_90 : decode c_Md_seek 90 = .ok (.aload_n 0, 1) := by decide +kernel
theorem d_Md_seek_91 : decode c_Md_seek 91 = .ok (.iload_n 1, 1) := by decide +kernel
theorem d_Md_seek_92 : decode c_Md_seek 92 = .ok (.iload 6, 2) := by decide +kernel
theorem d_Md_seek_94 : decode c_Md_seek 94 = .ok (.invokevirtual 150, 3) := by decide +kernel
theorem d_Md_seek_97 : decode c_Md_seek 97 = .ok (.istore 8, 2) := by decide +kernel
theorem d_Md_seek_99 : decode c_Md_seek 99 = .ok (.aload_n 0, 1) := by decide +kernel
theorem d_Md_seek_100 : decode c_Md_seek 100 = .ok (.iload_n 2, 1) := by decide +kernel
theorem d_Md_seek_101 : decode c_Md_seek 101 = .ok (.iload 7, 2) := by decide +kernel
theorem d_Md_seek_103 : decode c_Md_seek 103 = .ok (.invokevirtual 150, 3) := by decide +kernel
theorem d_Md_seek_106 : decode c_Md_seek 106 = .ok (.istore 9, 2) := by decide +kernel
theorem d_Md_seek_108 : decode c_Md_seek 108 = .ok (.iload_n 3, 1) := by decide +kernel
theorem d_Md_seek_109 : decode c_Md_seek 109 = .ok (.iconst 1, 1) := by decide +kernel
theorem d_Md_seek_110 : decode c_Md_seek 110 = .ok (.if_icmp .ne 13, 3) := by decide +kernel
theorem d_Md_seek_113 : decode c_Md_seek 113 = .ok (.iload 8, 2) := by decide +kernel
theorem d_Md_seek_115 : decode c_Md_seek 115 = .ok (.iload 9, 2) := by decide +kernel
theorem d_Md_seek_117 : decode c_Md_seek 117 = .ok (.if_icmp .eq 32, 3) := by decide +kernel
theorem d_Md_seek_120 : decode c_Md_seek 120 = .ok (.goto 26, 3) := by decide +kernel
theorem d_Md_seek_123 : decode c_Md_seek 123 = .ok (.iload_n 3, 1) := by decide +kernel
theorem d_Md_seek_124 : decode c_Md_seek 124 = .ok (.iconst 2, 1) := by decide +kernel
theorem d_Md_seek_125 : decode c_Md_seek 125 = .ok (.if_icmp .ne 16, 3) := by decide +kernel
theorem d_Md_seek_128 : decode c_Md_seek 128 = .ok (.iload 9, 2) := by decide +kernel
theorem d_Md_seek_130 : decode c_Md_seek 130 = .ok (.ifCond .eq 19, 3) := by decide +kernel
theorem d_Md_seek_133 : decode c_Md_seek 133 = .ok (.iload 8, 2) := by decide +kernel
theorem d_Md_seek_135 : decode c_Md_seek 135 = .ok (.ifCond .ne 14, 3) := by decide +kernel
theorem d_Md_seek_138 : decode c_Md_seek 138 = .ok (.goto 8, 3) := by decide +kernel
theorem d_Md_seek_141 : decode c_Md_seek 141 = .ok (.iload 8, 2) := by decide +kernel
theorem d_Md_seek_143 : decode c_Md_seek 143 = .ok (.ifCond .eq 6, 3) := by decide +kernel
theorem d_Md_seek_146 : decode c_Md_seek 146 = .ok (.iload 5, 2) := by decide +kernel
theorem d_Md_seek_148 : decode c_Md_seek 148 = .ok (.ireturn, 1) := by decide +kernel
theorem d_Md_seek_149 : decode c_Md_seek 149 = .ok (.iconst 0, 1) := by decide +kernel
theorem d_Md_seek_150 : decode c_Md_seek 150 = .ok (.istore 10, 2) := by decide +kernel
theorem d_Md_seek_152 : decode c_Md_seek 152 = .ok (.iload 10, 2) := by decide +kernel
theorem d_Md_seek_154 : decode c_Md_seek 154 = .ok (.iconst 4, 1) := by decide +kernel
theorem d_Md_seek_155 : decode c_Md_seek 155 = .ok (.if_icmp .ge 85, 3) := by decide +kernel
theorem d_Md_seek_158 : decode c_Md_seek 158 = .ok (.aload_n 0, 1) := by decide +kernel
theorem d_Md_seek_159 : decode c_Md_seek 159 = .ok (.iload_n 1, 1) := by decide +kernel
theorem d_Md_seek_160 : decode c_Md_seek 160 = .ok (.iload 6, 2) := by decide +kernel
theorem d_Md_seek_162 : decode c_Md_seek 162 = .ok (.iload 10, 2) := by decide +kernel
theorem d_Md_seek_164 : decode c_Md_seek 164 = .ok (.invokevirtual 146, 3) := by decide +kernel
theorem d_Md_seek_167 : decode c_Md_seek 167 = .ok (.sipush 257, 3) := by decide +kernel
theorem d_Md_seek_170 : decode c_Md_seek 170 = .ok (.imul, 1) := by decide +kernel
theorem d_Md_seek_171 : decode c_Md_seek 171 = .ok (.aload_n 0, 1) := by decide +kernel
theorem d_Md_seek_172 : decode c_Md_seek 172 = .ok (.iload_n 2, 1) := by decide +kernel
theorem d_Md_seek_173 : decode c_Md_seek 173 = .ok (.iload 7, 2) := by decide +kernel
theorem d_Md_seek_175 : decode c_Md_seek 175 = .ok (.iload 10, 2) := by decide +kernel
theorem d_Md_seek_177 : decode c_Md_seek 177 = .ok (.invokevirtual 146, 3) := by decide +kernel
theorem d_Md_seek_180 : decode c_Md_seek 180 = .ok (.iadd, 1) := by decide +kernel
theorem d_Md_seek_181 : decode c_Md_seek 181 = .ok (.istore 11, 2) := by decide +kernel
theorem d_Md_seek_183 : decode c_Md_seek 183 = .ok (.aload_n 0, 1) := by decide +kernel
theorem d_Md_seek_184 : decode c_Md_seek 184 = .ok (.getfield 64, 3) := by decide +kernel
theorem d_Md_seek_187 : decode c_Md_seek 187 = .ok (.iload 11, 2) := by decide +kernel
theorem d_Md_seek_189 : decode c_Md_seek 189 = .ok (.baload, 1) := by decide +kernel
theorem d_Md_seek_190 : decode c_Md_seek 190 = .ok (.ifCond .eq 6, 3) := by decide +kernel
theorem d_Md_seek_193 : decode c_Md_seek 193 = .ok (.goto 41, 3) := by decide +kernel
theorem d_Md_seek_196 : decode c_Md_seek 196 = .ok (.aload_n 0, 1) := by decide +kernel
theorem d_Md_seek_197 : decode c_Md_seek 197 = .ok (.getfield 64, 3) := by decide +kernel
theorem d_Md_seek_200 : decode c_Md_seek 200 = .ok (.iload 11, 2) := by decide +kernel
theorem d_Md_seek_202 : decode c_Md_seek 202 = .ok (.iconst 1, 1) := by decide +kernel
theorem d_Md_seek_203 : decode c_Md_seek 203 = .ok (.bastore, 1) := by decide +kernel
theorem d_Md_seek_204 : decode c_Md_seek 204 = .ok (.aload_n 0, 1) := by decide +kernel
theorem d_Md_seek_205 : decode c_Md_seek 205 = .ok (.getfield 55, 3) := by decide +kernel
theorem d_Md_seek_208 : decode c_Md_seek 208 = .ok (.iload 4, 2) := by decide +kernel
theorem d_Md_seek_210 : decode c_Md_seek 210 = .ok (.iload 11, 2) := by decide +kernel
theorem d_Md_seek_212 : decode c_Md_seek 212 = .ok (.iastore, 1) := by decide +kernel
theorem d_Md_seek_213 : decode c_Md_seek 213 = .ok (.aload_n 0, 1) := by decide +kernel
theorem d_Md_seek_214 : decode c_Md_seek 214 = .ok (.getfield 58, 3) := by decide +kernel
theorem d_Md_seek_217 : decode c_Md_seek 217 = .ok (.iload 4, 2) := by decide +kernel
theorem d_Md_seek_219 : decode c_Md_seek 219 = .ok (.iload 5, 2) := by decide +kernel
theorem d_Md_seek_221 : decode c_Md_seek 221 = .ok (.iastore, 1) := by decide +kernel
theorem d_Md_seek_222 : decode c_Md_seek 222 = .ok (.aload_n 0, 1) := by decide +kernel
theorem d_Md_seek_223 : decode c_Md_seek 223 = .ok (.getfield 61, 3) := by decide +kernel
theorem d_Md_seek_226 : decode c_Md_seek 226 = .ok (.iload 4, 2) := by decide +kernel
theorem d_Md_seek_228 : decode c_Md_seek 228 = .ok (.iload 10, 2) := by decide +kernel
theorem d_Md_seek_230 : decode c_Md_seek 230 = .ok (.iastore, 1) := by decide +kernel
theorem d_Md_seek_231 : decode c_Md_seek 231 = .ok (.iinc 4 1, 3) := by decide +kernel
theorem d_Md_seek_234 : decode c_Md_seek 234 = .ok (.iinc 10 1, 3) := by decide +kernel
theorem d_Md_seek_237 : decode c_Md_seek 237 = .ok (.goto (-85), 3) := by decide +kernel
theorem d_Md_seek_240 : decode c_Md_seek 240 = .ok (.iinc 5 1, 3) := by decide +kernel
theorem d_Md_seek_243 : decode c_Md_seek 243 = .ok (.goto (-186), 3) := by decide +kernel
theorem d_Md_seek_246 : decode c_Md_seek 246 = .ok (.iconst (-1), 1) := by decide +kernel
theorem d_Md_seek_247 : decode c_Md_seek 247 = .ok (.ireturn, 1) := by decide +kernel
theorem d_Md_spell_0 : decode c_Md_spell 0 = .ok (.aload_n 0, 1) := by decide +kernel
theorem d_Md_spell_1 : decode c_Md_spell 1 = .ok (.iconst 0, 1) := by decide +kernel
theorem d_Md_spell_2 : decode c_Md_spell 2 = .ok (.putfield 154, 3) := by decide +kernel
theorem d_Md_spell_5 : decode c_Md_spell 5 = .ok (.iload_n 1, 1) := by decide +kernel
theorem d_Md_spell_6 : decode c_Md_spell 6 = .ok (.istore_n 2, 1) := by decide +kernel
theorem d_Md_spell_7 : decode c_Md_spell 7 = .ok (.aload_n 0, 1) := by decide +kernel
theorem d_Md_spell_8 : decode c_Md_spell 8 = .ok (.getfield 58, 3) := by decide +kernel
theorem d_Md_spell_11 : decode c_Md_spell 11 = .ok (.iload_n 2, 1) := by decide +kernel
theorem d_Md_spell_12 : decode c_Md_spell 12 = .ok (.iaload, 1) := by decide +kernel
theorem d_Md_spell_13 : decode c_Md_spell 13 = .ok (.ifCond .lt 23, 3) := by decide +kernel
theorem d_Md_spell_16 : decode c_Md_spell 16 = .ok (.aload_n 0, 1) := by decide +kernel
theorem d_Md_spell_17 : decode c_Md_spell 17 = .ok (.dup, 1) := by decide +kernel
theorem d_Md_spell_18 : decode c_Md_spell 18 = .ok (.getfield 154, 3) := by decide +kernel
theorem d_Md_spell_21 : decode c_Md_spell 21 = .ok (.iconst 1, 1) := by decide +kernel
theorem d_Md_spell_22 : decode c_Md_spell 22 = .ok (.iadd, 1) := by decide +kernel
theorem d_Md_spell_23 : decode c_Md_spell 23 = .ok (.putfield 154, 3) := by decide +kernel
theorem d_Md_spell_26 : decode c_Md_spell 26 = .ok (.aload_n 0, 1) := by decide +kernel
theorem d_Md_spell_27 : decode c_Md_spell 27 = .ok (.getfield 58, 3) := by decide +kernel
theorem d_Md_spell_30 : decode c_Md_spell 30 = .ok (.iload_n 2, 1) := by decide +kernel
theorem d_Md_spell_31 : decode c_Md_spell 31 = .ok (.iaload, 1) := by decide +kernel
theorem d_Md_spell_32 : decode c_Md_spell 32 = .ok (.istore_n 2, 1) := by decide +kernel
theorem d_Md_spell_33 : decode c_Md_spell 33 = .ok (.goto (-26), 3) := by decide +kernel
theorem d_Md_spell_36 : decode c_Md_spell 36 = .ok (.aload_n 0, 1) := by decide +kernel
theorem d_Md_spell_37 : decode c_Md_spell 37 = .ok (.getfield 154, 3) := by decide +kernel
theorem d_Md_spell_40 : decode c_Md_spell 40 = .ok (.istore_n 2, 1) := by decide +kernel
theorem d_Md_spell_41 : decode c_Md_spell 41 = .ok (.iload_n 1, 1) := by decide +kernel
theorem d_Md_spell_42 : decode c_Md_spell 42 = .ok (.istore_n 3, 1) := by decide +kernel
theorem d_Md_spell_43 : decode c_Md_spell 43 = .ok (.aload_n 0, 1) := by decide +kernel
theorem d_Md_spell_44 : decode c_Md_spell 44 = .ok (.getfield 58, 3) := by decide +kernel
theorem d_Md_spell_47 : decode c_Md_spell 47 = .ok (.iload_n 3, 1) := by decide +kernel
theorem d_Md_spell_48 : decode c_Md_spell 48 = .ok (.iaload, 1) := by decide +kernel
theorem d_Md_spell_49 : decode c_Md_spell 49 = .ok (.ifCond .lt 28, 3) := by decide +kernel
theorem d_Md_spell_52 : decode c_Md_spell 52 = .ok (.iinc 2 (-1), 3) := by decide +kernel
theorem d_Md_spell_55 : decode c_Md_spell 55 = .ok (.aload_n 0, 1) := by decide +kernel
theorem d_Md_spell_56 : decode c_Md_spell 56 = .ok (.getfield 36, 3) := by decide +kernel
theorem d_Md_spell_59 : decode c_Md_spell 59 = .ok (.iload_n 2, 1) := by decide +kernel
theorem d_Md_spell_60 : decode c_Md_spell 60 = .ok (.aload_n 0, 1) := by decide +kernel
theorem d_Md_spell_61 : decode c_Md_spell 61 = .ok (.getfield 61, 3) := by decide +kernel
theorem d_Md_spell_64 : decode c_Md_spell 64 = .ok (.iload_n 3, 1) := by decide +kernel
theorem d_Md_spell_65 : decode c_Md_spell 65 = .ok (.iaload, 1) := by decide +kernel
theorem d_Md_spell_66 : decode c_Md_spell 66 = .ok (.iastore, 1) := by decide +kernel
theorem d_Md_spell_67 : decode c_Md_spell 67 = .ok (.aload_n 0, 1) := by decide +kernel
theorem d_Md_spell_68 : decode c_Md_spell 68 = .ok (.getfield 58, 3) := by decide +kernel
theorem d_Md_spell_71 : decode c_Md_spell 71 = .ok (.iload_n 3, 1) := by decide +kernel
theorem d_Md_spell_72 : decode c_Md_spell 72 = .ok (.iaload, 1) := by decide +kernel
theorem d_Md_spell_73 : decode c_Md_spell 73 = .ok (.istore_n 3, 1) := by decide +kernel
theorem d_Md_spell_74 : decode c_Md_spell 74 = .ok (.goto (-31), 3) := by decide +kernel
theorem d_Md_spell_77 : decode c_Md_spell 77 = .ok (.return_, 1) := by decide +kernel
theorem d_Md_contains_0 : decode c_Md_contains 0 = .ok (.aload_n 0, 1) := by decide +kernel
theorem d_Md_contains_1 : decode c_Md_contains 1 = .ok (.iload_n 1, 1) := by decide +kernel
theorem d_Md_contains_2 : decode c_Md_contains 2 = .ok (.invokestatic 135, 3) := by decide +kernel
theorem d_Md_contains_5 : decode c_Md_contains 5 = .ok (.ifCond .eq 14, 3) := by decide +kernel
theorem d_Md_contains_8 : decode c_Md_contains 8 = .ok (.iload_n 2, 1) := by decide +kernel
theorem d_Md_contains_9 : decode c_Md_contains 9 = .ok (.invokestatic 135, 3) := by decide +kernel
theorem d_Md_contains_12 : decode c_Md_contains 12 = .ok (.ifCond .eq 7, 3) := by decide +kernel
theorem d_Md_contains_15 : decode c_Md_contains 15 = .ok (.iconst 1, 1) := by decide +kernel
theorem d_Md_contains_16 : decode c_Md_contains 16 = .ok (.goto 4, 3) := by decide +kernel
theorem d_Md_contains_19 : decode c_Md_contains 19 = .ok (.iconst 0, 1) := by decide +kernel
theorem d_Md_contains_20 : decode c_Md_contains 20 = .ok (.invokevirtual 142, 3) := by decide +kernel
theorem d_Md_contains_23 : decode c_Md_contains 23 = .ok (.ifCond .ne 5, 3) := by decide +kernel
theorem d_Md_contains_26 : decode c_Md_contains 26 = .ok (.iconst 0, 1) := by decide +kernel
theorem d_Md_contains_27 : decode c_Md_contains 27 = .ok (.ireturn, 1) := by decide +kernel
theorem d_Md_contains_28 : decode c_Md_contains 28 = .ok (.aload_n 0, 1) := by decide +kernel
theorem d_Md_contains_29 : decode c_Md_contains 29 = .ok (.iload_n 1, 1) := by decide +kernel
theorem d_Md_contains_30 : decode c_Md_contains 30 = .ok (.iload_n 2, 1) := by decide +kernel
theorem d_Md_contains_31 : decode c_Md_contains 31 = .ok (.iconst 2, 1) := by decide +kernel
theorem d_Md_contains_32 : decode c_Md_contains 32 = .ok (.invokevirtual 158, 3) := by decide +kernel
theorem d_Md_contains_35 : decode c_Md_contains 35 = .ok (.istore_n 3, 1) := by decide +kernel
theorem d_Md_contains_36 : decode c_Md_contains 36 = .ok (.aload_n 0, 1) := by decide +kernel
theorem d_Md_contains_37 : decode c_Md_contains 37 = .ok (.iconst 0, 1) := by decide +kernel
theorem d_Md_contains_38 : decode c_Md_contains 38 = .ok (.putfield 154, 3) := by decide +kernel
theorem d_Md_contains_41 : decode c_Md_contains 41 = .ok (.iload_n 3, 1) := by decide +kernel
theorem d_Md_contains_42 : decode c_Md_contains 42 = .ok (.ifCond .lt 8, 3) := by decide +kernel
theorem d_Md_contains_45 : decode c_Md_contains 45 = .ok (.aload_n 0, 1) := by decide +kernel
theorem d_Md_contains_46 : decode c_Md_contains 46 = .ok (.iload_n 3, 1) := by decide +kernel
theorem d_Md_contains_47 : decode c_Md_contains 47 = .ok (.invokevirtual 161, 3) := by decide +kernel
theorem d_Md_contains_50 : decode c_Md_contains 50 = .ok (.iload_n 3, 1) := by decide +kernel
theorem d_Md_contains_51 : decode c_Md_contains 51 = .ok (.ifCond .ge 7, 3) := by decide +kernel
theorem d_Md_contains_54 : decode c_Md_contains 54 = .ok (.iconst 1, 1) := by decide +kernel
theorem d_Md_contains_55 : decode c_Md_contains 55 = .ok (.goto 4, 3) := by decide +kernel
theorem d_Md_contains_58 : decode c_Md_contains 58 = .ok (.iconst 0, 1) := by decide +kernel
theorem d_Md_contains_59 : decode c_Md_contains 59 = .ok (.ireturn, 1) := by decide +kernel
theorem d_Md_least_0 : decode c_Md_least 0 = .ok (.aload_n 0, 1) := by decide +kernel
theorem d_Md_least_1 : decode c_Md_least 1 = .ok (.iload_n 1, 1) := by decide +kernel
theorem d_Md_least_2 : decode c_Md_least 2 = .ok (.invokestatic 135, 3) := by decide +kernel
theorem d_Md_least_5 : decode c_Md_least 5 = .ok (.invokevirtual 142, 3) := by decide +kernel
theorem d_Md_least_8 : decode c_Md_least 8 = .ok (.ifCond .ne 5, 3) := by decide +kernel
theorem d_Md_least_11 : decode c_Md_least 11 = .ok (.iconst 0, 1) := by decide +kernel
theorem d_Md_least_12 : decode c_Md_least 12 = .ok (.ireturn, 1) := by decide +kernel
theorem d_Md_least_13 : decode c_Md_least 13 = .ok (.aload_n 0, 1) := by decide +kernel
theorem d_Md_least_14 : decode c_Md_least 14 = .ok (.iload_n 1, 1) := by decide +kernel
theorem d_Md_least_15 : decode c_Md_least 15 = .ok (.iload_n 1, 1) := by decide +kernel
theorem d_Md_least_16 : decode c_Md_least 16 = .ok (.iconst 3, 1) := by decide +kernel
theorem d_Md_least_17 : decode c_Md_least 17 = .ok (.invokevirtual 158, 3) := by decide +kernel
theorem d_Md_least_20 : decode c_Md_least 20 = .ok (.istore_n 2, 1) := by decide +kernel
theorem d_Md_least_21 : decode c_Md_least 21 = .ok (.aload_n 0, 1) := by decide +kernel
theorem d_Md_least_22 : decode c_Md_least 22 = .ok (.iconst 0, 1) := by decide +kernel
theorem d_Md_least_23 : decode c_Md_least 23 = .ok (.putfield 154, 3) := by decide +kernel
theorem d_Md_least_26 : decode c_Md_least 26 = .ok (.iload_n 2, 1) := by decide +kernel
theorem d_Md_least_27 : decode c_Md_least 27 = .ok (.ifCond .ge 5, 3) := by decide +kernel
theorem d_Md_least_30 : decode c_Md_least 30 = .ok (.iconst (-1), 1) := by decide +kernel
theorem d_Md_least_31 : decode c_Md_least 31 = .ok (.ireturn, 1) := by decide +kernel
theorem d_Md_least_32 : decode c_Md_least 32 = .ok (.aload_n 0, 1) := by decide +kernel
theorem d_Md_least_33 : decode c_Md_least 33 = .ok (.iload_n 2, 1) := by decide +kernel
theorem d_Md_least_34 : decode c_Md_least 34 = .ok (.invokevirtual 161, 3) := by decide +kernel
theorem d_Md_least_37 : decode c_Md_least 37 = .ok (.aload_n 0, 1) := by decide +kernel
theorem d_Md_least_38 : decode c_Md_least 38 = .ok (.getfield 154, 3) := by decide +kernel
theorem d_Md_least_41 : decode c_Md_least 41 = .ok (.ireturn, 1) := by decide +kernel
theorem d_Md_count_0 : decode c_Md_count 0 = .ok (.aload_n 0, 1) := by decide +kernel
theorem d_Md_count_1 : decode c_Md_count 1 = .ok (.iload_n 1, 1) := by decide +kernel
theorem d_Md_count_2 : decode c_Md_count 2 = .ok (.invokestatic 135, 3) := by decide +kernel
theorem d_Md_count_5 : decode c_Md_count 5 = .ok (.ifCond .eq 17, 3) := by decide +kernel
theorem d_Md_count_8 : decode c_Md_count 8 = .ok (.iload_n 2, 1) := by decide +kernel
theorem d_Md_count_9 : decode c_Md_count 9 = .ok (.iconst 0, 1) := by decide +kernel
theorem d_Md_count_10 : decode c_Md_count 10 = .ok (.bipush 30, 2) := by decide +kernel
theorem d_Md_count_12 : decode c_Md_count 12 = .ok (.invokestatic 86, 3) := by decide +kernel
theorem d_Md_count_15 : decode c_Md_count 15 = .ok (.ifCond .eq 7, 3) := by decide +kernel
theorem d_Md_count_18 : decode c_Md_count 18 = .ok (.iconst 1, 1) := by decide +kernel
theorem d_Md_count_19 : decode c_Md_count 19 = .ok (.goto 4, 3) := by decide +kernel
theorem d_Md_count_22 : decode c_Md_count 22 = .ok (.iconst 0, 1) := by decide +kernel
theorem d_Md_count_23 : decode c_Md_count 23 = .ok (.invokevirtual 142, 3) := by decide +kernel
theorem d_Md_count_26 : decode c_Md_count 26 = .ok (.ifCond .ne 5, 3) := by decide +kernel
theorem d_Md_count_29 : decode c_Md_count 29 = .ok (.lconst 0, 1) := by decide +kernel
theorem d_Md_count_30 : decode c_Md_count 30 = .ok (.lreturn, 1) := by decide +kernel
theorem d_Md_count_31 : decode c_Md_count 31 = .ok (.aload_n 0, 1) := by decide +kernel
theorem d_Md_count_32 : decode c_Md_count 32 = .ok (.iload_n 1, 1) := by decide +kernel
theorem d_Md_count_33 : decode c_Md_count 33 = .ok (.iload_n 2, 1) := by decide +kernel
theorem d_Md_count_34 : decode c_Md_count 34 = .ok (.invokevirtual 165, 3) := by decide +kernel
theorem d_Md_count_37 : decode c_Md_count 37 = .ok (.aload_n 0, 1) := by decide +kernel
theorem d_Md_count_38 : decode c_Md_count 38 = .ok (.getfield 67, 3) := by decide +kernel
theorem d_Md_count_41 : decode c_Md_count 41 = .ok (.iload_n 2, 1) := by decide +kernel
theorem d_Md_count_42 : decode c_Md_count 42 = .ok (.sipush 257, 3) := by decide +kernel
theorem d_Md_count_45 : decode c_Md_count 45 = .ok (.imul, 1) := by decide +kernel
theorem d_Md_count_46 : decode c_Md_count 46 = .ok (.sipush 256, 3) := by decide +kernel
theorem d_Md_count_49 : decode c_Md_count 49 = .ok (.iadd, 1) := by decide +kernel
theorem d_Md_count_50 : decode c_Md_count 50 = .ok (.laload, 1) := by decide +kernel
theorem d_Md_count_51 : decode c_Md_count 51 = .ok (.lreturn, 1) := by decide +kernel
theorem d_Md_reckon_0 : decode c_Md_reckon 0 = .ok (.iconst 0, 1) := by decide +kernel
theorem d_Md_reckon_1 : decode c_Md_reckon 1 = .ok (.istore_n 3, 1) := by decide +kernel
theorem d_Md_reckon_2 : decode c_Md_reckon 2 = .ok (.iload_n 3, 1) := by decide +kernel
theorem d_Md_reckon_3 : decode c_Md_reckon 3 = .ok (.iload_n 2, 1) := by decide +kernel
theorem d_Md_reckon_4 : decode c_Md_reckon 4 = .ok (.if_icmp .gt 108, 3) := by decide +kernel
theorem d_Md_reckon_7 : decode c_Md_reckon 7 = .ok (.iconst 0, 1) := by decide +kernel
theorem d_Md_reckon_8 : decode c_Md_reckon 8 = .ok (.istore 4, 2) := by decide +kernel
theorem d_Md_reckon_10 : decode c_Md_reckon 10 = .ok (.iload 4, 2) := by decide +kernel
theorem d_Md_reckon_12 : decode c_Md_reckon 12 = .ok (.sipush 257, 3) := by decide +kernel
theorem d_Md_reckon_15 : decode c_Md_reckon 15 = .ok (.if_icmp .ge 91, 3) := by decide +kernel
theorem d_Md_reckon_18 : decode c_Md_reckon 18 = .ok (.iload_n 3, 1) := by decide +kernel
theorem d_Md_reckon_19 : decode c_Md_reckon 19 = .ok (.ifCond .ne 17, 3) := by decide +kernel
theorem d_Md_reckon_22 : decode c_Md_reckon 22 = .ok (.aload_n 0, 1) := by decide +kernel
theorem d_Md_reckon_23 : decode c_Md_reckon 23 = .ok (.iload_n 1, 1) := by decide +kernel
theorem d_Md_reckon_24 : decode c_Md_reckon 24 = .ok (.iload 4, 2) := by decide +kernel
theorem d_Md_reckon_26 : decode c_Md_reckon 26 = .ok (.invokevirtual 150, 3) := by decide +kernel
theorem d_Md_reckon_29 : decode c_Md_reckon 29 = .ok (.ifCond .eq 7, 3) := by decide +kernel
theorem d_Md_reckon_32 : decode c_Md_reckon 32 = .ok (.lconst 1, 1) := by decide +kernel
theorem d_Md_reckon_33 : decode c_Md_reckon 33 = .ok (.goto 4, 3) := by decide +kernel
theorem d_Md_reckon_36 : decode c_Md_reckon 36 = .ok (.lconst 0, 1) := by decide +kernel
theorem d_Md_reckon_37 : decode c_Md_reckon 37 = .ok (.lstore 5, 2) := by decide +kernel
theorem d_Md_reckon_39 : decode c_Md_reckon 39 = .ok (.iconst 0, 1) := by decide +kernel
theorem d_Md_reckon_40 : decode c_Md_reckon 40 = .ok (.istore 7, 2) := by decide +kernel
theorem d_Md_reckon_42 : decode c_Md_reckon 42 = .ok (.iload 7, 2) := by decide +kernel
theorem d_Md_reckon_44 : decode c_Md_reckon 44 = .ok (.iconst 4, 1) := by decide +kernel
theorem d_Md_reckon_45 : decode c_Md_reckon 45 = .ok (.if_icmp .ge 40, 3) := by decide +kernel
theorem d_Md_reckon_48 : decode c_Md_reckon 48 = .ok (.iload_n 3, 1) := by decide +kernel
theorem d_Md_reckon_49 : decode c_Md_reckon 49 = .ok (.ifCond .le 36, 3) := by decide +kernel
theorem d_Md_reckon_52 : decode c_Md_reckon 52 = .ok (.lload 5, 2) := by decide +kernel
theorem d_Md_reckon_54 : decode c_Md_reckon 54 = .ok (.aload_n 0, 1) := by decide +kernel
theorem d_Md_reckon_55 : decode c_Md_reckon 55 = .ok (.getfield 67, 3) := by decide +kernel
theorem d_Md_reckon_58 : decode c_Md_reckon 58 = .ok (.iload_n 3, 1) := by decide +kernel
theorem d_Md_reckon_59 : decode c_Md_reckon 59 = .ok (.iconst 1, 1) := by decide +kernel
theorem d_Md_reckon_60 : decode c_Md_reckon 60 = .ok (.isub, 1) := by decide +kernel
theorem d_Md_reckon_61 : decode c_Md_reckon 61 = .ok (.sipush 257, 3) := by decide +kernel
theorem d_Md_reckon_64 : decode c_Md_reckon 64 = .ok (.imul, 1) := by decide +kernel
theorem d_Md_reckon_65 : decode c_Md_reckon 65 = .ok (.aload_n 0, 1) := by decide +kernel
theorem d_Md_reckon_66 : decode c_Md_reckon 66 = .ok (.iload_n 1, 1) := by decide +kernel
theorem d_Md_reckon_67 : decode c_Md_reckon 67 = .ok (.iload 4, 2) := by decide +kernel
theorem d_Md_reckon_69 : decode c_Md_reckon 69 = .ok (.iload 7, 2) := by decide +kernel
theorem d_Md_reckon_71 : decode c_Md_reckon 71 = .ok (.invokevirtual 146, 3) := by decide +kernel
theorem d_Md_reckon_74 : decode c_Md_reckon 74 = .ok (.iadd, 1) := by decide +kernel
theorem d_Md_reckon_75 : decode c_Md_reckon 75 = .ok (.laload, 1) := by decide +kernel
theorem d_Md_reckon_76 : decode c_Md_reckon 76 = .ok (.ladd, 1) := by decide +kernel
theorem d_Md_reckon_77 : decode c_Md_reckon 77 = .ok (.lstore 5, 2) := by decide +kernel
theorem d_Md_reckon_79 : decode c_Md_reckon 79 = .ok (.iinc 7 1, 3) := by decide +kernel
theorem d_Md_reckon_82 : decode c_Md_reckon 82 = .ok (.goto (-40), 3) := by decide +kernel
theorem d_Md_reckon_85 : decode c_Md_reckon 85 = .ok (.aload_n 0, 1) := by decide +kernel
theorem d_Md_reckon_86 : decode c_Md_reckon 86 = .ok (.getfield 67, 3) := by decide +kernel
theorem d_Md_reckon_89 : decode c_Md_reckon 89 = .ok (.iload_n 3, 1) := by decide +kernel
theorem d_Md_reckon_90 : decode c_Md_reckon 90 = .ok (.sipush 257, 3) := by decide +kernel
theorem d_Md_reckon_93 : decode c_Md_reckon 93 = .ok (.imul, 1) := by decide +kernel
theorem d_Md_reckon_94 : decode c_Md_reckon 94 = .ok (.iload 4, 2) := by decide +kernel
theorem d_Md_reckon_96 : decode c_Md_reckon 96 = .ok (.iadd, 1) := by decide +kernel
theorem d_Md_reckon_97 : decode c_Md_reckon 97 = .ok (.lload 5, 2) := by decide +kernel
theorem d_Md_reckon_99 : decode c_Md_reckon 99 = .ok (.lastore, 1) := by decide +kernel
theorem d_Md_reckon_100 : decode c_Md_reckon 100 = .ok (.iinc 4 1, 3) := by decide +kernel
theorem d_Md_reckon_103 : decode c_Md_reckon 103 = .ok (.goto (-93), 3) := by decide +kernel
theorem d_Md_reckon_106 : decode c_Md_reckon 106 = .ok (.iinc 3 1, 3) := by decide +kernel
theorem d_Md_reckon_109 : decode c_Md_reckon 109 = .ok (.goto (-107), 3) := by decide +kernel
theorem d_Md_reckon_112 : decode c_Md_reckon 112 = .ok (.return_, 1) := by decide +kernel
theorem d_Md_word_0 : decode c_Md_word 0 = .ok (.aload_n 0, 1) := by decide +kernel
theorem d_Md_word_1 : decode c_Md_word 1 = .ok (.iload_n 1, 1) := by decide +kernel
theorem d_Md_word_2 : decode c_Md_word 2 = .ok (.invokestatic 135, 3) := by decide +kernel
theorem d_Md_word_5 : decode c_Md_word 5 = .ok (.ifCond .eq 23, 3) := by decide +kernel
theorem d_Md_word_8 : decode c_Md_word 8 = .ok (.iload_n 2, 1) := by decide +kernel
theorem d_Md_word_9 : decode c_Md_word 9 = .ok (.iconst 0, 1) := by decide +kernel
theorem d_Md_word_10 : decode c_Md_word 10 = .ok (.bipush 30, 2) := by decide +kernel
theorem d_Md_word_12 : decode c_Md_word 12 = .ok (.invokestatic 86, 3) := by decide +kernel
theorem d_Md_word_15 : decode c_Md_word 15 = .ok (.ifCond .eq 13, 3) := by decide +kernel
theorem d_Md_word_18 : decode c_Md_word 18 = .ok (.lload_n 3, 1) := by decide +kernel
theorem d_Md_word_19 : decode c_Md_word 19 = .ok (.lconst 0, 1) := by decide +kernel
theorem d_Md_word_20 : decode c_Md_word 20 = .ok (.lcmp, 1) := by decide +kernel
theorem d_Md_word_21 : decode c_Md_word 21 = .ok (.ifCond .lt 7, 3) := by decide +kernel
theorem d_Md_word_24 : decode c_Md_word 24 = .ok (.iconst 1, 1) := by decide +kernel
theorem d_Md_word_25 : decode c_Md_word 25 = .ok (.goto 4, 3) := by decide +kernel
theorem d_Md_word_28 : decode c_Md_word 28 = .ok (.iconst 0, 1) := by decide +kernel
theorem d_Md_word_29 : decode c_Md_word 29 = .ok (.invokevirtual 142, 3) := by decide +kernel
theorem d_Md_word_32 : decode c_Md_word 32 = .ok (.ifCond .ne 5, 3) := by decide +kernel
theorem d_Md_word_35 : decode c_Md_word 35 = .ok (.iconst 0, 1) := by decide +kernel
theorem d_Md_word_36 : decode c_Md_word 36 = .ok (.ireturn, 1) := by decide +kernel
theorem d_Md_word_37 : decode c_Md_word 37 = .ok (.aload_n 0, 1) := by decide +kernel
theorem d_Md_word_38 : decode c_Md_word 38 = .ok (.iload_n 1, 1) := by decide +kernel
theorem d_Md_word_39 : decode c_Md_word 39 = .ok (.iload_n 2, 1) := by decide +kernel
theorem d_Md_word_40 : decode c_Md_word 40 = .ok (.invokevirtual 165, 3) := by decide +kernel
theorem d_Md_word_43 : decode c_Md_word 43 = .ok (.aload_n 0, 1) := by decide +kernel
theorem d_Md_word_44 : decode c_Md_word 44 = .ok (.iconst 0, 1) := by decide +kernel
theorem d_Md_word_45 : decode c_Md_word 45 = .ok (.putfield 154, 3) := by decide +kernel
theorem d_Md_word_48 : decode c_Md_word 48 = .ok (.lload_n 3, 1) := by decide +kernel
theorem d_Md_word_49 : decode c_Md_word 49 = .ok (.lstore 5, 2) := by decide +kernel
theorem d_Md_word_51 : decode c_Md_word 51 = .ok (.lload 5, 2) := by decide +kernel
theorem d_Md_word_53 : decode c_Md_word 53 = .ok (.aload_n 0, 1) := by decide +kernel
theorem d_Md_word_54 : decode c_Md_word 54 = .ok (.getfield 67, 3) := by decide +kernel
theorem d_Md_word_57 : decode c_Md_word 57 = .ok (.iload_n 2, 1) := by decide +kernel
theorem d_Md_word_58 : decode c_Md_word 58 = .ok (.sipush 257, 3) := by decide +kernel
theorem d_Md_word_61 : decode c_Md_word 61 = .ok (.imul, 1) := by decide +kernel
theorem d_Md_word_62 : decode c_Md_word 62 = .ok (.sipush 256, 3) := by decide +kernel
theorem d_Md_word_65 : decode c_Md_word 65 = .ok (.iadd, 1) := by decide +kernel
theorem d_Md_word_66 : decode c_Md_word 66 = .ok (.laload, 1) := by decide +kernel
theorem d_Md_word_67 : decode c_Md_word 67 = .ok (.lcmp, 1) := by decide +kernel
theorem d_Md_word_68 : decode c_Md_word 68 = .ok (.ifCond .lt 5, 3) := by decide +kernel
theorem d_Md_word_71 : decode c_Md_word 71 = .ok (.iconst 0, 1) := by decide +kernel
theorem d_Md_word_72 : decode c_Md_word 72 = .ok (.ireturn, 1) := by decide +kernel
theorem d_Md_word_73 : decode c_Md_word 73 = .ok (.sipush 256, 3) := by decide +kernel
theorem d_Md_word_76 : decode c_Md_word 76 = .ok (.istore 7, 2) := by decide +kernel
theorem d_Md_word_78 : decode c_Md_word 78 = .ok (.iload_n 2, 1) := by decide +kernel
theorem d_Md_word_79 : decode c_Md_word 79 = .ok (.iconst 1, 1) := by decide +kernel
theorem d_Md_word_80 : decode c_Md_word 80 = .ok (.isub, 1) := by decide +kernel
theorem d_Md_word_81 : decode c_Md_word 81 = .ok (.istore 8, 2) := by decide +kernel
theorem d_Md_word_83 : decode c_Md_word 83 = .ok (.iload 8, 2) := by decide +kernel
theorem d_Md_word_85 : decode c_Md_word 85 = .ok (.ifCond .lt 103, 3) := by decide +kernel
theorem d_Md_word_88 : decode c_Md_word 88 = .ok (.iconst 0, 1) := by decide +kernel
theorem d_Md_word_89 : decode c_Md_word 89 = .ok (.istore 9, 2) := by decide +kernel
theorem d_Md_word_91 : decode c_Md_word 91 = .ok (.lload 5, 2) := by decide +kernel
theorem d_Md_word_93 : decode c_Md_word 93 = .ok (.aload_n 0, 1) := by decide +kernel
theorem d_Md_word_94 : decode c_Md_word 94 = .ok (.getfield 67, 3) := by decide +kernel
theorem d_Md_word_97 : decode c_Md_word 97 = .ok (.iload 8, 2) := by decide +kernel
theorem d_Md_word_99 : decode c_Md_word 99 = .ok (.sipush 257, 3) := by decide +kernel
theorem d_Md_word_102 : decode c_Md_word 102 = .ok (.imul, 1) := by decide +kernel
theorem d_Md_word_103 : decode c_Md_word 103 = .ok (.aload_n 0, 1) := by decide +kernel
theorem d_Md_word_104 : decode c_Md_word 104 = .ok (.iload_n 1, 1) := by decide +kernel
theorem d_Md_word_105 : decode c_Md_word 105 = .ok (.iload 7, 2) := by decide +kernel
theorem d_Md_word_107 : decode c_Md_word 107 = .ok (.iload 9, 2) := by decide +kernel
theorem d_Md_word_109 : decode c_Md_word 109 = .ok (.invokevirtual 146, 3) := by decide +kernel
theorem d_Md_word_112 : decode c_Md_word 112 = .ok (.iadd, 1) := by decide +kernel
theorem d_Md_word_113 : decode c_Md_word 113 = .ok (.laload, 1) := by decide +kernel
theorem d_Md_word_114 : decode c_Md_word 114 = .ok (.lcmp, 1) := by decide +kernel
theorem d_Md_word_115 : decode c_Md_word 115 = .ok (.ifCond .lt 35, 3) := by decide +kernel
theorem d_Md_word_118 : decode c_Md_word 118 = .ok (.lload 5, 2) := by decide +kernel
theorem d_Md_word_120 : decode c_Md_word 120 = .ok (.aload_n 0, 1) := by decide +kernel
theorem d_Md_word_121 : decode c_Md_word 121 = .ok (.getfield 67, 3) := by decide +kernel
theorem d_Md_word_124 : decode c_Md_word 124 = .ok (.iload 8, 2) := by decide +kernel
theorem d_Md_word_126 : decode c_Md_word 126 = .ok (.sipush 257, 3) := by decide +kernel
theorem d_Md_word_129 : decode c_Md_word 129 = .ok (.imul, 1) := by decide +kernel
theorem d_Md_word_130 : decode c_Md_word 130 = .ok (.aload_n 0, 1) := by decide +kernel
theorem d_Md_word_131 : decode c_Md_word 131 = .ok (.iload_n 1, 1) := by decide +kernel
theorem d_Md_word_132 : decode c_Md_word 132 = .ok (.iload 7, 2) := by decide +kernel
theorem d_Md_word_134 : decode c_Md_word 134 = .ok (.iload 9, 2) := by decide +kernel
theorem d_Md_word_136 : decode c_Md_word 136 = .ok (.invokevirtual 146, 3) := by decide +kernel
theorem d_Md_word_139 : decode c_Md_word 139 = .ok (.iadd, 1) := by decide +kernel
theorem d_Md_word_140 : decode c_Md_word 140 = .ok (.laload, 1) := by decide +kernel
theorem d_Md_word_141 : decode c_Md_word 141 = .ok (.lsub, 1) := by decide +kernel
theorem d_Md_word_142 : decode c_Md_word 142 = .ok (.lstore 5, 2) := by decide +kernel
theorem d_Md_word_144 : decode c_Md_word 144 = .ok (.iinc 9 1, 3) := by decide +kernel
theorem d_Md_word_147 : decode c_Md_word 147 = .ok (.goto (-56), 3) := by decide +kernel
theorem d_Md_word_150 : decode c_Md_word 150 = .ok (.aload_n 0, 1) := by decide +kernel
theorem d_Md_word_151 : decode c_Md_word 151 = .ok (.iload_n 1, 1) := by decide +kernel
theorem d_Md_word_152 : decode c_Md_word 152 = .ok (.iload 7, 2) := by decide +kernel
theorem d_Md_word_154 : decode c_Md_word 154 = .ok (.iload 9, 2) := by decide +kernel
theorem d_Md_word_156 : decode c_Md_word 156 = .ok (.invokevirtual 146, 3) := by decide +kernel
theorem d_Md_word_159 : decode c_Md_word 159 = .ok (.istore 7, 2) := by decide +kernel
theorem d_Md_word_161 : decode c_Md_word 161 = .ok (.aload_n 0, 1) := by decide +kernel
theorem d_Md_word_162 : decode c_Md_word 162 = .ok (.getfield 36, 3) := by decide +kernel
theorem d_Md_word_165 : decode c_Md_word 165 = .ok (.aload_n 0, 1) := by decide +kernel
theorem d_Md_word_166 : decode c_Md_word 166 = .ok (.getfield 154, 3) := by decide +kernel
theorem d_Md_word_169 : decode c_Md_word 169 = .ok (.iload 9, 2) := by decide +kernel
theorem d_Md_word_171 : decode c_Md_word 171 = .ok (.iastore, 1) := by decide +kernel
theorem d_Md_word_172 : decode c_Md_word 172 = .ok (.aload_n 0, 1) := by decide +kernel
theorem d_Md_word_173 : decode c_Md_word 173 = .ok (.dup, 1) := by decide +kernel
theorem d_Md_word_174 : decode c_Md_word 174 = .ok (.getfield 154, 3) := by decide +kernel
theorem d_Md_word_177 : decode c_Md_word 177 = .ok (.iconst 1, 1) := by decide +kernel
theorem d_Md_word_178 : decode c_Md_word 178 = .ok (.iadd, 1) := by decide +kernel
theorem d_Md_word_179 : decode c_Md_word 179 = .ok (.putfield 154, 3) := by decide +kernel
theorem d_Md_word_182 : decode c_Md_word 182 = .ok (.iinc 8 (-1), 3) := by decide +kernel
theorem d_Md_word_185 : decode c_Md_word 185 = .ok (.goto (-102), 3) := by decide +kernel
theorem d_Md_word_188 : decode c_Md_word 188 = .ok (.iconst 1, 1) := by decide +kernel
theorem d_Md_word_189 : decode c_Md_word 189 = .ok (.ireturn, 1) := by decide +kernel
theorem d_Md_states_0 : decode c_Md_states 0 = .ok (.aload_n 0, 1) := by decide +kernel
theorem d_Md_states_1 : decode c_Md_states 1 = .ok (.iload_n 1, 1) := by decide +kernel
theorem d_Md_states_2 : decode c_Md_states 2 = .ok (.invokestatic 135, 3) := by decide +kernel
theorem d_Md_states_5 : decode c_Md_states 5 = .ok (.invokevirtual 142, 3) := by decide +kernel
theorem d_Md_states_8 : decode c_Md_states 8 = .ok (.ifCond .ne 5, 3) := by decide +kernel
theorem d_Md_states_11 : decode c_Md_states 11 = .ok (.iconst 0, 1) := by decide +kernel
theorem d_Md_states_12 : decode c_Md_states 12 = .ok (.ireturn, 1) := by decide +kernel
theorem d_Md_states_13 : decode c_Md_states 13 = .ok (.iconst 0, 1) := by decide +kernel
theorem d_Md_states_14 : decode c_Md_states 14 = .ok (.istore_n 2, 1) := by decide +kernel
theorem d_Md_states_15 : decode c_Md_states 15 = .ok (.iload_n 2, 1) := by decide +kernel
theorem d_Md_states_16 : decode c_Md_states 16 = .ok (.sipush 257, 3) := by decide +kernel
theorem d_Md_states_19 : decode c_Md_states 19 = .ok (.if_icmp .ge 16, 3) := by decide +kernel
theorem d_Md_states_22 : decode c_Md_states 22 = .ok (.aload_n 0, 1) := by decide +kernel
theorem d_Md_states_23 : decode c_Md_states 23 = .ok (.getfield 64, 3) := by decide +kernel
theorem d_Md_states_26 : decode c_Md_states 26 = .ok (.iload_n 2, 1) := by decide +kernel
theorem d_Md_states_27 : decode c_Md_states 27 = .ok (.iconst 0, 1) := by decide +kernel
theorem d_Md_states_28 : decode c_Md_states 28 = .ok (.bastore, 1) := by decide +kernel
theorem d_Md_states_29 : decode c_Md_states 29 = .ok (.iinc 2 1, 3) := by decide +kernel
theorem d_Md_states_32 : decode c_Md_states 32 = .ok (.goto (-17), 3) := by decide +kernel
theorem d_Md_states_35 : decode c_Md_states 35 = .ok (.iconst 1, 1) := by decide +kernel
theorem d_Md_states_36 : decode c_Md_states 36 = .ok (.istore_n 2, 1) := by decide +kernel
theorem d_Md_states_37 : decode c_Md_states 37 = .ok (.aload_n 0, 1) := by decide +kernel
theorem d_Md_states_38 : decode c_Md_states 38 = .ok (.getfield 55, 3) := by decide +kernel
theorem d_Md_states_41 : decode c_Md_states 41 = .ok (.iconst 0, 1) := by decide +kernel
theorem d_Md_states_42 : decode c_Md_states 42 = .ok (.sipush 256, 3) := by decide +kernel
theorem d_Md_states_45 : decode c_Md_states 45 = .ok (.iastore, 1) := by decide +kernel
theorem d_Md_states_46 : decode c_Md_states 46 = .ok (.aload_n 0, 1) := by decide +kernel
theorem d_Md_states_47 : decode c_Md_states 47 = .ok (.getfield 64, 3) := by decide +kernel
theorem d_Md_states_50 : decode c_Md_states 50 = .ok (.sipush 256, 3) := by decide +kernel
theorem d_Md_states_53 : decode c_Md_states 53 = .ok (.iconst 1, 1) := by decide +kernel
theorem d_Md_states_54 : decode c_Md_states 54 = .ok (.bastore, 1) := by decide +kernel
theorem d_Md_states_55 : decode c_Md_states 55 = .ok (.iconst 0, 1) := by decide +kernel
theorem d_Md_states_56 : decode c_Md_states 56 = .ok (.istore_n 3, 1) := by decide +kernel
theorem d_Md_states_57 : decode c_Md_states 57 = .ok (.iload_n 3, 1) := by decide +kernel
theorem d_Md_states_58 : decode c_Md_states 58 = .ok (.iload_n 2, 1) := by decide +kernel
theorem d_Md_states_59 : decode c_Md_states 59 = .ok (.if_icmp .ge 71, 3) := by decide +kernel
theorem d_Md_states_62 : decode c_Md_states 62 = .ok (.iconst 0, 1) := by decide +kernel
theorem d_Md_states_63 : decode c_Md_states 63 = .ok (.istore 4, 2) := by decide +kernel
theorem d_Md_states_65 : decode c_Md_states 65 = .ok (.iload 4, 2) := by decide +kernel
theorem d_Md_states_67 : decode c_Md_states 67 = .ok (.iconst 4, 1) := by decide +kernel
theorem d_Md_states_68 : decode c_Md_states 68 = .ok (.if_icmp .ge 56, 3) := by decide +kernel
theorem d_Md_states_71 : decode c_Md_states 71 = .ok (.aload_n 0, 1) := by decide +kernel
theorem d_Md_states_72 : decode c_Md_states 72 = .ok (.iload_n 1, 1) := by decide +kernel
theorem d_Md_states_73 : decode c_Md_states 73 = .ok (.aload_n 0, 1) := by decide +kernel
theorem d_Md_states_74 : decode c_Md_states 74 = .ok (.getfield 55, 3) := by decide +kernel
theorem d_Md_states_77 : decode c_Md_states 77 = .ok (.iload_n 3, 1) := by decide +kernel
theorem d_Md_states_78 : decode c_Md_states 78 = .ok (.iaload, 1) := by decide +kernel
theorem d_Md_states_79 : decode c_Md_states 79 = .ok (.iload 4, 2) := by decide +kernel
theorem d_Md_states_81 : decode c_Md_states 81 = .ok (.invokevirtual 146, 3) := by decide +kernel
theorem d_Md_states_84 : decode c_Md_states 84 = .ok (.istore 5, 2) := by decide +kernel
theorem d_Md_states_86 : decode c_Md_states 86 = .ok (.aload_n 0, 1) := by decide +kernel
theorem d_Md_states_87 : decode c_Md_states 87 = .ok (.getfield 64, 3) := by decide +kernel
theorem d_Md_states_90 : decode c_Md_states 90 = .ok (.iload 5, 2) := by decide +kernel
theorem d_Md_states_92 : decode c_Md_states 92 = .ok (.baload, 1) := by decide +kernel
theorem d_Md_states_93 : decode c_Md_states 93 = .ok (.ifCond .eq 6, 3) := by decide +kernel
theorem d_Md_states_96 : decode c_Md_states 96 = .ok (.goto 22, 3) := by decide +kernel
theorem d_Md_states_99 : decode c_Md_states 99 = .ok (.aload_n 0, 1) := by decide +kernel
theorem d_Md_states_100 : decode c_Md_states 100 = .ok (.getfield 64, 3) := by decide +kernel
theorem d_Md_states_103 : decode c_Md_states 103 = .ok (.iload 5, 2) := by decide +kernel
theorem d_Md_states_105 : decode c_Md_states 105 = .ok (.iconst 1, 1) := by decide +kernel
theorem d_Md_states_106 : decode c_Md_states 106 = .ok (.bastore, 1) := by decide +kernel
theorem d_Md_states_107 : decode c_Md_states 107 = .ok (.aload_n 0, 1) := by decide +kernel
theorem d_Md_states_108 : decode c_Md_states 108 = .ok (.getfield 55, 3) := by decide +kernel
theorem d_Md_states_111 : decode c_Md_states 111 = .ok (.iload_n 2, 1) := by decide +kernel
theorem d_Md_states_112 : decode c_Md_states 112 = .ok (.iload 5, 2) := by decide +kernel
theorem d_Md_states_114 : decode c_Md_states 114 = .ok (.iastore, 1) := by decide +kernel
theorem d_Md_states_115 : decode c_Md_states 115 = .ok (.iinc 2 1, 3) := by decide +kernel
theorem d_Md_states_118 : decode c_Md_states 118 = .ok (.iinc 4 1, 3) := by decide +kernel
theorem d_Md_states_121 : decode c_Md_states 121 = .ok (.goto (-56), 3) := by decide +kernel
theorem d_Md_states_124 : decode c_Md_states 124 = .ok (.iinc 3 1, 3) := by decide +kernel
theorem d_Md_states_127 : decode c_Md_states 127 = .ok (.goto (-70), 3) := by decide +kernel
theorem d_Md_states_130 : decode c_Md_states 130 = .ok (.iconst 0, 1) := by decide +kernel
theorem d_Md_states_131 : decode c_Md_states 131 = .ok (.istore_n 3, 1) := by decide +kernel
theorem d_Md_states_132 : decode c_Md_states 132 = .ok (.iload_n 3, 1) := by decide +kernel
theorem d_Md_states_133 : decode c_Md_states 133 = .ok (.iload_n 2, 1) := by decide +kernel
theorem d_Md_states_134 : decode c_Md_states 134 = .ok (.if_icmp .ge 39, 3) := by decide +kernel
theorem d_Md_states_137 : decode c_Md_states 137 = .ok (.aload_n 0, 1) := by decide +kernel
theorem d_Md_states_138 : decode c_Md_states 138 = .ok (.getfield 71, 3) := by decide +kernel
theorem d_Md_states_141 : decode c_Md_states 141 = .ok (.aload_n 0, 1) := by decide +kernel
theorem d_Md_states_142 : decode c_Md_states 142 = .ok (.getfield 55, 3) := by decide +kernel
theorem d_Md_states_145 : decode c_Md_states 145 = .ok (.iload_n 3, 1) := by decide +kernel
theorem d_Md_states_146 : decode c_Md_states 146 = .ok (.iaload, 1) := by decide +kernel
theorem d_Md_states_147 : decode c_Md_states 147 = .ok (.aload_n 0, 1) := by decide +kernel
theorem d_Md_states_148 : decode c_Md_states 148 = .ok (.iload_n 1, 1) := by decide +kernel
theorem d_Md_states_149 : decode c_Md_states 149 = .ok (.aload_n 0, 1) := by decide +kernel
theorem d_Md_states_150 : decode c_Md_states 150 = .ok (.getfield 55, 3) := by decide +kernel
theorem d_Md_states_153 : decode c_Md_states 153 = .ok (.iload_n 3, 1) := by decide +kernel
theorem d_Md_states_154 : decode c_Md_states 154 = .ok (.iaload, 1) := by decide +kernel
theorem d_Md_states_155 : decode c_Md_states 155 = .ok (.invokevirtual 150, 3) := by decide +kernel
theorem d_Md_states_158 : decode c_Md_states 158 = .ok (.ifCond .eq 7, 3) := by decide +kernel
theorem d_Md_states_161 : decode c_Md_states 161 = .ok (.iconst 1, 1) := by decide +kernel
theorem d_Md_states_162 : decode c_Md_states 162 = .ok (.goto 4, 3) := by decide +kernel
theorem d_Md_states_165 : decode c_Md_states 165 = .ok (.iconst 0, 1) := by decide +kernel
theorem d_Md_states_166 : decode c_Md_states 166 = .ok (.iastore, 1) := by decide +kernel
theorem d_Md_states_167 : decode c_Md_states 167 = .ok (.iinc 3 1, 3) := by decide +kernel
theorem d_Md_states_170 : decode c_Md_states 170 = .ok (.goto (-38), 3) := by decide +kernel
theorem d_Md_states_173 : decode c_Md_states 173 = .ok (.iconst 0, 1) := by decide +kernel
theorem d_Md_states_174 : decode c_Md_states 174 = .ok (.istore_n 3, 1) := by decide +kernel
theorem d_Md_states_175 : decode c_Md_states 175 = .ok (.aload_n 0, 1) := by decide +kernel
theorem d_Md_states_176 : decode c_Md_states 176 = .ok (.iload_n 1, 1) := by decide +kernel
theorem d_Md_states_177 : decode c_Md_states 177 = .ok (.iload_n 2, 1) := by decide +kernel
theorem d_Md_states_178 : decode c_Md_states 178 = .ok (.invokevirtual 168, 3) := by decide +kernel
theorem d_Md_states_181 : decode c_Md_states 181 = .ok (.istore 4, 2) := by decide +kernel
theorem d_Md_states_183 : decode c_Md_states 183 = .ok (.iload 4, 2) := by decide +kernel
theorem d_Md_states_185 : decode c_Md_states 185 = .ok (.iload_n 3, 1) := by decide +kernel
theorem d_Md_states_186 : decode c_Md_states 186 = .ok (.if_icmp .eq 17, 3) := by decide +kernel
theorem d_Md_states_189 : decode c_Md_states 189 = .ok (.iload 4, 2) := by decide +kernel
theorem d_Md_states_191 : decode c_Md_states 191 = .ok (.istore_n 3, 1) := by decide +kernel
theorem d_Md_states_192 : decode c_Md_states 192 = .ok (.aload_n 0, 1) := by decide +kernel
theorem d_Md_states_193 : decode c_Md_states 193 = .ok (.iload_n 1, 1) := by decide +kernel
theorem d_Md_states_194 : decode c_Md_states 194 = .ok (.iload_n 2, 1) := by decide +kernel
theorem d_Md_states_195 : decode c_Md_states 195 = .ok (.invokevirtual 168, 3) := by decide +kernel
theorem d_Md_states_198 : decode c_Md_states 198 = .ok (.istore 4, 2) := by decide +kernel
theorem d_Md_states_200 : decode c_Md_states 200 = .ok (.goto (-17), 3) := by decide +kernel
theorem d_Md_states_203 : decode c_Md_states 203 = .ok (.iload 4, 2) := by decide +kernel
theorem d_Md_states_205 : decode c_Md_states 205 = .ok (.ireturn, 1) := by decide +kernel
theorem d_Md_split_0 : decode c_Md_split 0 = .ok (.iconst 0, 1) := by decide +kernel
theorem d_Md_split_1 : decode c_Md_split 1 = .ok (.istore_n 3, 1) := by decide +kernel
theorem d_Md_split_2 : decode c_Md_split 2 = .ok (.iconst 0, 1) := by decide +kernel
theorem d_Md_split_3 : decode c_Md_split 3 = .ok (.istore 4, 2) := by decide +kernel
theorem d_Md_split_5 : decode c_Md_split 5 = .ok (.iload 4, 2) := by decide +kernel
theorem d_Md_split_7 : decode c_Md_split 7 = .ok (.iload_n 2, 1) := by decide +kernel
theorem d_Md_split_8 : decode c_Md_split 8 = .ok (.if_icmp .ge 183, 3) := by decide +kernel
theorem d_Md_split_11 : decode c_Md_split 11 = .ok (.aload_n 0, 1) := by decide +kernel
theorem d_Md_split_12 : decode c_Md_split 12 = .ok (.getfield 55, 3) := by decide +kernel
theorem d_Md_split_15 : decode c_Md_split 15 = .ok (.iload 4, 2) := by decide +kernel
theorem d_Md_split_17 : decode c_Md_split 17 = .ok (.iaload, 1) := by decide +kernel
theorem d_Md_split_18 : decode c_Md_split 18 = .ok (.istore 5, 2) := by decide +kernel
theorem d_Md_split_20 : decode c_Md_split 20 = .ok (.aload_n 0, 1) := by decide +kernel
theorem d_Md_split_21 : decode c_Md_split 21 = .ok (.getfield 74, 3) := by decide +kernel
theorem d_Md_split_24 : decode c_Md_split 24 = .ok (.iload 5, 2) := by decide +kernel
theorem d_Md_split_26 : decode c_Md_split 26 = .ok (.iconst (-1), 1) := by decide +kernel
theorem d_Md_split_27 : decode c_Md_split 27 = .ok (.iastore, 1) := by decide +kernel
theorem d_Md_split_28 : decode c_Md_split 28 = .ok (.iconst 0, 1) := by decide +kernel
theorem d_Md_split_29 : decode c_Md_split 29 = .ok (.istore 6, 2) := by decide +kernel
theorem d_Md_split_31 : decode c_Md_split 31 = .ok (.iload 6, 2) := by decide +kernel
theorem d_Md_split_33 : decode c_Md_split 33 = .ok (.iload 4, 2) := by decide +kernel
theorem d_Md_split_35 : decode c_Md_split 35 = .ok (.if_icmp .ge 129, 3) := by decide +kernel
theorem d_Md_split_38 : decode c_Md_split 38 = .ok (.aload_n 0, 1) := by decide +kernel
theorem d_Md_split_39 : decode c_Md_split 39 = .ok (.getfield 74, 3) := by decide +kernel
theorem d_Md_split_42 : decode c_Md_split 42 = .ok (.iload 5, 2) := by decide +kernel
theorem d_Md_split_44 : decode c_Md_split 44 = .ok (.iaload, 1) := by decide +kernel
theorem d_Md_split_45 : decode c_Md_split 45 = .ok (.ifCond .ge 119, 3) := by decide +kernel
theorem d_Md_split_48 : decode c_Md_split 48 = .ok (.aload_n 0, 1) := by decide +kernel
theorem d_Md_split_49 : decode c_Md_split 49 = .ok (.getfield 55, 3) := by decide +kernel
theorem d_Md_split_52 : decode c_Md_split 52 = .ok (.iload 6, 2) := by decide +kernel
theorem d_Md_split_54 : decode c_Md_split 54 = .ok (.iaload, 1) := by decide +kernel
theorem d_Md_split_55 : decode c_Md_split 55 = .ok (.istore 7, 2) := by decide +kernel
theorem d_Md_split_57 : decode c_Md_split 57 = .ok (.aload_n 0, 1) := by decide +kernel
theorem d_Md_split_58 : decode c_Md_split 58 = .ok (.getfield 71, 3) := by decide +kernel
theorem d_Md_split_61 : decode c_Md_split 61 = .ok (.iload 7, 2) := by decide +kernel
theorem d_Md_split_63 : decode c_Md_split 63 = .ok (.iaload, 1) := by decide +kernel
theorem d_Md_split_64 : decode c_Md_split 64 = .ok (.aload_n 0, 1) := by decide +kernel
theorem d_Md_split_65 : decode c_Md_split 65 = .ok (.getfield 71, 3) := by decide +kernel
theorem d_Md_split_68 : decode c_Md_split 68 = .ok (.iload 5, 2) := by decide +kernel
theorem d_Md_split_70 : decode c_Md_split 70 = .ok (.iaload, 1) := by decide +kernel
theorem d_Md_split_71 : decode c_Md_split 71 = .ok (.if_icmp .ne 7, 3) := by decide +kernel
theorem d_Md_split_74 : decode c_Md_split 74 = .ok (.iconst 1, 1) := by decide +kernel
theorem d_Md_split_75 : decode c_Md_split 75 = .ok (.goto 4, 3) := by decide +kernel
theorem d_Md_split_78 : decode c_Md_split 78 = .ok (.iconst 0, 1) := by decide +kernel
theorem d_Md_split_79 : decode c_Md_split 79 = .ok (.istore 8, 2) := by decide +kernel
theorem d_Md_split_81 : decode c_Md_split 81 = .ok (.iconst 0, 1) := by decide +kernel
theorem d_Md_split_82 : decode c_Md_split 82 = .ok (.istore 9, 2) := by decide +kernel
theorem d_Md_split_84 : decode c_Md_split 84 = .ok (.iload 9, 2) := by decide +kernel
theorem d_Md_split_86 : decode c_Md_split 86 = .ok (.iconst 4, 1) := by decide +kernel
theorem d_Md_split_87 : decode c_Md_split 87 = .ok (.if_icmp .ge 52, 3) := by decide +kernel
theorem d_Md_split_90 : decode c_Md_split 90 = .ok (.iload 8, 2) := by decide +kernel
theorem d_Md_split_92 : decode c_Md_split 92 = .ok (.ifCond .eq 47, 3) := by decide +kernel
theorem d_Md_split_95 : decode c_Md_split 95 = .ok (.aload_n 0, 1) := by decide +kernel
theorem d_Md_split_96 : decode c_Md_split 96 = .ok (.getfield 71, 3) := by decide +kernel
theorem d_Md_split_99 : decode c_Md_split 99 = .ok (.aload_n 0, 1) := by decide +kernel
theorem d_Md_split_100 : decode c_Md_split 100 = .ok (.iload_n 1, 1) := by decide +kernel
theorem d_Md_split_101 : decode c_Md_split 101 = .ok (.iload 7, 2) := by decide +kernel
theorem d_Md_split_103 : decode c_Md_split 103 = .ok (.iload 9, 2) := by decide +kernel
theorem d_Md_split_105 : decode c_Md_split 105 = .ok (.invokevirtual 146, 3) := by decide +kernel
theorem d_Md_split_108 : decode c_Md_split 108 = .ok (.iaload, 1) := by decide +kernel
theorem d_Md_split_109 : decode c_Md_split 109 = .ok (.aload_n 0, 1) := by decide +kernel
theorem d_Md_split_110 : decode c_Md_split 110 = .ok (.getfield 71, 3) := by decide +kernel
theorem d_Md_split_113 : decode c_Md_split 113 = .ok (.aload_n 0, 1) := by decide +kernel
theorem d_Md_split_114 : decode c_Md_split 114 = .ok (.iload_n 1, 1) := by decide +kernel
theorem d_Md_split_115 : decode c_Md_split 115 = .ok (.iload 5, 2) := by decide +kernel
theorem d_Md_split_117 : decode c_Md_split 117 = .ok (.iload 9, 2) := by decide +kernel
theorem d_Md_split_119 : decode c_Md_split 119 = .ok (.invokevirtual 146, 3) := by decide +kernel
theorem d_Md_split_122 : decode c_Md_split 122 = .ok (.iaload, 1) := by decide +kernel
theorem d_Md_split_123 : decode c_Md_split 123 = .ok (.if_icmp .ne 7, 3) := by decide +kernel
theorem d_Md_split_126 : decode c_Md_split 126 = .ok (.iconst 1, 1) := by decide +kernel
theorem d_Md_split_127 : decode c_Md_split 127 = .ok (.goto 4, 3) := by decide +kernel
theorem d_Md_split_130 : decode c_Md_split 130 = .ok (.iconst 0, 1) := by decide +kernel
theorem d_Md_split_131 : decode c_Md_split 131 = .ok (.istore 8, 2) := by decide +kernel
theorem d_Md_split_133 : decode c_Md_split 133 = .ok (.iinc 9 1, 3) := by decide +kernel
theorem d_Md_split_136 : decode c_Md_split 136 = .ok (.goto (-52), 3) := by decide +kernel
theorem d_Md_split_139 : decode c_Md_split 139 = .ok (.iload 8, 2) := by decide +kernel
theorem d_Md_split_141 : decode c_Md_split 141 = .ok (.ifCond .eq 17, 3) := by decide +kernel
theorem d_Md_split_144 : decode c_Md_split 144 = .ok (.aload_n 0, 1) := by decide +kernel
theorem d_Md_split_145 : decode c_Md_split 145 = .ok (.getfield 74, 3) := by decide +kernel
theorem d_Md_split_148 : decode c_Md_split 148 = .ok (.iload 5, 2) := by decide +kernel
theorem d_Md_split_150 : decode c_Md_split 150 = .ok (.aload_n 0, 1) := by decide +kernel
theorem d_Md_split_151 : decode c_Md_split 151 = .ok (.getfield 74, 3) := by decide +kernel
theorem d_Md_split_154 : decode c_Md_split 154 = .ok (.iload 7, 2) := by decide +kernel
theorem d_Md_split_156 : decode c_Md_split 156 = .ok (.iaload, 1) := by decide +kernel
theorem d_Md_split_157 : decode c_Md_split 157 = .ok (.iastore, 1) := by decide +kernel
theorem d_Md_split_158 : decode c_Md_split 158 = .ok (.iinc 6 1, 3) := by decide +kernel
theorem d_Md_split_161 : decode c_Md_split 161 = .ok (.goto (-130), 3) := by decide +kernel
theorem d_Md_split_164 : decode c_Md_split 164 = .ok (.aload_n 0, 1) := by decide +kernel
theorem d_Md_split_165 : decode c_Md_split 165 = .ok (.getfield 74, 3) := by decide +kernel
theorem d_Md_split_168 : decode c_Md_split 168 = .ok (.iload 5, 2) := by decide +kernel
theorem d_Md_split_170 : decode c_Md_split 170 = .ok (.iaload, 1) := by decide +kernel
theorem d_Md_split_171 : decode c_Md_split 171 = .ok (.ifCond .ge 14, 3) := by decide +kernel
theorem d_Md_split_174 : decode c_Md_split 174 = .ok (.aload_n 0, 1) := by decide +kernel
theorem d_Md_split_175 : decode c_Md_split 175 = .ok (.getfield 74, 3) := by decide +kernel
theorem d_Md_split_178 : decode c_Md_split 178 = .ok (.iload 5, 2) := by decide +kernel
theorem d_Md_split_180 : decode c_Md_split 180 = .ok (.iload_n 3, 1) := by decide +kernel
theorem d_Md_split_181 : decode c_Md_split 181 = .ok (.iastore, 1) := by decide +kernel
theorem d_Md_split_182 : decode c_Md_split 182 = .ok (.iinc 3 1, 3) := by decide +kernel
theorem d_Md_split_185 : decode c_Md_split 185 = .ok (.iinc 4 1, 3) := by decide +kernel
theorem d_Md_split_188 : decode c_Md_split 188 = .ok (.goto (-183), 3) := by decide +kernel
theorem d_Md_split_191 : decode c_Md_split 191 = .ok (.iconst 0, 1) := by decide +kernel
theorem d_Md_split_192 : decode c_Md_split 192 = .ok (.istore 4, 2) := by decide +kernel
theorem d_Md_split_194 : decode c_Md_split 194 = .ok (.iload 4, 2) := by decide +kernel
theorem d_Md_split_196 : decode c_Md_split 196 = .ok (.iload_n 2, 1) := by decide +kernel
theorem d_Md_split_197 : decode c_Md_split 197 = .ok (.if_icmp .ge 33, 3) := by decide +kernel
theorem d_Md_split_200 : decode c_Md_split 200 = .ok (.aload_n 0, 1) := by decide +kernel
theorem d_Md_split_201 : decode c_Md_split 201 = .ok (.getfield 71, 3) := by decide +kernel
theorem d_Md_split_204 : decode c_Md_split 204 = .ok (.aload_n 0, 1) := by decide +kernel
theorem d_Md_split_205 : decode c_Md_split 205 = .ok (.getfield 55, 3) := by decide +kernel
theorem d_Md_split_208 : decode c_Md_split 208 = .ok (.iload 4, 2) := by decide +kernel
theorem d_Md_split_210 : decode c_Md_split 210 = .ok (.iaload, 1) := by decide +kernel
theorem d_Md_split_211 : decode c_Md_split 211 = .ok (.aload_n 0, 1) := by decide +kernel
theorem d_Md_split_212 : decode c_Md_split 212 = .ok (.getfield 74, 3) := by decide +kernel
theorem d_Md_split_215 : decode c_Md_split 215 = .ok (.aload_n 0, 1) := by decide +kernel
theorem d_Md_split_216 : decode c_Md_split 216 = .ok (.getfield 55, 3) := by decide +kernel
theorem d_Md_split_219 : decode c_Md_split 219 = .ok (.iload 4, 2) := by decide +kernel
theorem d_Md_split_221 : decode c_Md_split 221 = .ok (.iaload, 1) := by decide +kernel
theorem d_Md_split_222 : decode c_Md_split 222 = .ok (.iaload, 1) := by decide +kernel
theorem d_Md_split_223 : decode c_Md_split 223 = .ok (.iastore, 1) := by decide +kernel
theorem d_Md_split_224 : decode c_Md_split 224 = .ok (.iinc 4 1, 3) := by decide +kernel
theorem d_Md_split_227 : decode c_Md_split 227 = .ok (.goto (-33), 3) := by decide +kernel
theorem d_Md_split_230 : decode c_Md_split 230 = .ok (.iload_n 3, 1) := by decide +kernel
theorem d_Md_split_231 : decode c_Md_split 231 = .ok (.ireturn, 1) := by decide +kernel
theorem d_Md_turn_0 : decode c_Md_turn 0 = .ok (.aload_n 0, 1) := by decide +kernel
theorem d_Md_turn_1 : decode c_Md_turn 1 = .ok (.iload_n 1, 1) := by decide +kernel
theorem d_Md_turn_2 : decode c_Md_turn 2 = .ok (.invokestatic 135, 3) := by decide +kernel
theorem d_Md_turn_5 : decode c_Md_turn 5 = .ok (.ifCond .eq 14, 3) := by decide +kernel
theorem d_Md_turn_8 : decode c_Md_turn 8 = .ok (.iload_n 2, 1) := by decide +kernel
theorem d_Md_turn_9 : decode c_Md_turn 9 = .ok (.invokestatic 135, 3) := by decide +kernel
theorem d_Md_turn_12 : decode c_Md_turn 12 = .ok (.ifCond .eq 7, 3) := by decide +kernel
theorem d_Md_turn_15 : decode c_Md_turn 15 = .ok (.iconst 1, 1) := by decide +kernel
theorem d_Md_turn_16 : decode c_Md_turn 16 = .ok (.goto 4, 3) := by decide +kernel
theorem d_Md_turn_19 : decode c_Md_turn 19 = .ok (.iconst 0, 1) := by decide +kernel
theorem d_Md_turn_20 : decode c_Md_turn 20 = .ok (.invokevirtual 142, 3) := by decide +kernel
theorem d_Md_turn_23 : decode c_Md_turn 23 = .ok (.ifCond .ne 4, 3) := by decide +kernel
theorem d_Md_turn_26 : decode c_Md_turn 26 = .ok (.return_, 1) := by decide +kernel
theorem d_Md_turn_27 : decode c_Md_turn 27 = .ok (.aload_n 0, 1) := by decide +kernel
theorem d_Md_turn_28 : decode c_Md_turn 28 = .ok (.getfield 26, 3) := by decide +kernel
theorem d_Md_turn_31 : decode c_Md_turn 31 = .ok (.iload_n 1, 1) := by decide +kernel
theorem d_Md_turn_32 : decode c_Md_turn 32 = .ok (.iaload, 1) := by decide +kernel
theorem d_Md_turn_33 : decode c_Md_turn 33 = .ok (.istore_n 3, 1) := by decide +kernel
theorem d_Md_turn_34 : decode c_Md_turn 34 = .ok (.aload_n 0, 1) := by decide +kernel
theorem d_Md_turn_35 : decode c_Md_turn 35 = .ok (.getfield 23, 3) := by decide +kernel
theorem d_Md_turn_38 : decode c_Md_turn 38 = .ok (.iload_n 1, 1) := by decide +kernel
theorem d_Md_turn_39 : decode c_Md_turn 39 = .ok (.iaload, 1) := by decide +kernel
theorem d_Md_turn_40 : decode c_Md_turn 40 = .ok (.istore 4, 2) := by decide +kernel
theorem d_Md_turn_42 : decode c_Md_turn 42 = .ok (.aload_n 0, 1) := by decide +kernel
theorem d_Md_turn_43 : decode c_Md_turn 43 = .ok (.getfield 17, 3) := by decide +kernel
theorem d_Md_turn_46 : decode c_Md_turn 46 = .ok (.iload_n 1, 1) := by decide +kernel
theorem d_Md_turn_47 : decode c_Md_turn 47 = .ok (.iaload, 1) := by decide +kernel
theorem d_Md_turn_48 : decode c_Md_turn 48 = .ok (.istore 5, 2) := by decide +kernel
theorem d_Md_turn_50 : decode c_Md_turn 50 = .ok (.aload_n 0, 1) := by decide +kernel
theorem d_Md_turn_51 : decode c_Md_turn 51 = .ok (.getfield 32, 3) := by decide +kernel
theorem d_Md_turn_54 : decode c_Md_turn 54 = .ok (.iload_n 1, 1) := by decide +kernel
theorem d_Md_turn_55 : decode c_Md_turn 55 = .ok (.baload, 1) := by decide +kernel
theorem d_Md_turn_56 : decode c_Md_turn 56 = .ok (.istore 6, 2) := by decide +kernel
theorem d_Md_turn_58 : decode c_Md_turn 58 = .ok (.iconst 0, 1) := by decide +kernel
theorem d_Md_turn_59 : decode c_Md_turn 59 = .ok (.istore 7, 2) := by decide +kernel
theorem d_Md_turn_61 : decode c_Md_turn 61 = .ok (.iload 7, 2) := by decide +kernel
theorem d_Md_turn_63 : decode c_Md_turn 63 = .ok (.iload 5, 2) := by decide +kernel
theorem d_Md_turn_65 : decode c_Md_turn 65 = .ok (.if_icmp .ge 92, 3) := by decide +kernel
theorem d_Md_turn_68 : decode c_Md_turn 68 = .ok (.aload_n 0, 1) := by decide +kernel
theorem d_Md_turn_69 : decode c_Md_turn 69 = .ok (.getfield 48, 3) := by decide +kernel
theorem d_Md_turn_72 : decode c_Md_turn 72 = .ok (.iload 7, 2) := by decide +kernel
theorem d_Md_turn_74 : decode c_Md_turn 74 = .ok (.aload_n 0, 1) := by decide +kernel
theorem d_Md_turn_75 : decode c_Md_turn 75 = .ok (.getfield 20, 3) := by decide +kernel
theorem d_Md_turn_78 : decode c_Md_turn 78 = .ok (.iload_n 1, 1) := by decide +kernel
theorem d_Md_turn_79 : decode c_Md_turn 79 = .ok (.bipush 8, 2) := by decide +kernel
theorem d_Md_turn_81 : decode c_Md_turn 81 = .ok (.imul, 1) := by decide +kernel
theorem d_Md_turn_82 : decode c_Md_turn 82 = .ok (.iload 7, 2) := by decide +kernel
theorem d_Md_turn_84 : decode c_Md_turn 84 = .ok (.iadd, 1) := by decide +kernel
theorem d_Md_turn_85 : decode c_Md_turn 85 = .ok (.iaload, 1) := by decide +kernel
theorem d_Md_turn_86 : decode c_Md_turn 86 = .ok (.iastore, 1) := by decide +kernel
theorem d_Md_turn_87 : decode c_Md_turn 87 = .ok (.aload_n 0, 1) := by decide +kernel
theorem d_Md_turn_88 : decode c_Md_turn 88 = .ok (.getfield 51, 3) := by decide +kernel
theorem d_Md_turn_91 : decode c_Md_turn 91 = .ok (.iload 7, 2) := by decide +kernel
theorem d_Md_turn_93 : decode c_Md_turn 93 = .ok (.iconst 0, 1) := by decide +kernel
theorem d_Md_turn_94 : decode c_Md_turn 94 = .ok (.iastore, 1) := by decide +kernel
theorem d_Md_turn_95 : decode c_Md_turn 95 = .ok (.iconst 0, 1) := by decide +kernel
theorem d_Md_turn_96 : decode c_Md_turn 96 = .ok (.istore 8, 2) := by decide +kernel
theorem d_Md_turn_98 : decode c_Md_turn 98 = .ok (.iload 8, 2) := by decide +kernel
theorem d_Md_turn_100 : decode c_Md_turn 100 = .ok (.iload 5, 2) := by decide +kernel
theorem d_Md_turn_102 : decode c_Md_turn 102 = .ok (.if_icmp .ge 49, 3) := by decide +kernel
theorem d_Md_turn_105 : decode c_Md_turn 105 = .ok (.aload_n 0, 1) := by decide +kernel
theorem d_Md_turn_106 : decode c_Md_turn 106 = .ok (.getfield 29, 3) := by decide +kernel
theorem d_Md_turn_109 : decode c_Md_turn 109 = .ok (.iload_n 1, 1) := by decide +kernel
theorem d_Md_turn_110 : decode c_Md_turn 110 = .ok (.bipush 8, 2) := by decide +kernel
theorem d_Md_turn_112 : decode c_Md_turn 112 = .ok (.imul, 1) := by decide +kernel
theorem d_Md_turn_113 : decode c_Md_turn 113 = .ok (.iload 8, 2) := by decide +kernel
theorem d_Md_turn_115 : decode c_Md_turn 115 = .ok (.iadd, 1) := by decide +kernel
theorem d_Md_turn_116 : decode c_Md_turn 116 = .ok (.iaload, 1) := by decide +kernel
theorem d_Md_turn_117 : decode c_Md_turn 117 = .ok (.iload 7, 2) := by decide +kernel
theorem d_Md_turn_119 : decode c_Md_turn 119 = .ok (.ishr, 1) := by decide +kernel
theorem d_Md_turn_120 : decode c_Md_turn 120 = .ok (.iconst 1, 1) := by decide +kernel
theorem d_Md_turn_121 : decode c_Md_turn 121 = .ok (.iand, 1) := by decide +kernel
theorem d_Md_turn_122 : decode c_Md_turn 122 = .ok (.iconst 1, 1) := by decide +kernel
theorem d_Md_turn_123 : decode c_Md_turn 123 = .ok (.if_icmp .ne 22, 3) := by decide +kernel
theorem d_Md_turn_126 : decode c_Md_turn 126 = .ok (.aload_n 0, 1) := by decide +kernel
theorem d_Md_turn_127 : decode c_Md_turn 127 = .ok (.getfield 51, 3) := by decide +kernel
theorem d_Md_turn_130 : decode c_Md_turn 130 = .ok (.iload 7, 2) := by decide +kernel
theorem d_Md_turn_132 : decode c_Md_turn 132 = .ok (.aload_n 0, 1) := by decide +kernel
theorem d_Md_turn_133 : decode c_Md_turn 133 = .ok (.getfield 51, 3) := by decide +kernel
theorem d_Md_turn_136 : decode c_Md_turn 136 = .ok (.iload 7, 2) := by decide +kernel
theorem d_Md_turn_138 : decode c_Md_turn 138 = .ok (.iaload, 1) := by decide +kernel
theorem d_Md_turn_139 : decode c_Md_turn 139 = .ok (.iconst 1, 1) := by decide +kernel
theorem d_Md_turn_140 : decode c_Md_turn 140 = .ok (.iload 8, 2) := by decide +kernel
theorem d_Md_turn_142 : decode c_Md_turn 142 = .ok (.ishl, 1) := by decide +kernel
theorem d_Md_turn_143 : decode c_Md_turn 143 = .ok (.ior, 1) := by decide +kernel
theorem d_Md_turn_144 : decode c_Md_turn 144 = .ok (.iastore, 1) := by decide +kernel
theorem d_Md_turn_145 : decode c_Md_turn 145 = .ok (.iinc 8 1, 3) := by decide +kernel
theorem d_Md_turn_148 : decode c_Md_turn 148 = .ok (.goto (-50), 3) := by decide +kernel
theorem d_Md_turn_151 : decode c_Md_turn 151 = .ok (.iinc 7 1, 3) := by decide +kernel
theorem d_Md_turn_154 : decode c_Md_turn 154 = .ok (.goto (-93), 3) := by decide +kernel
theorem d_Md_turn_157 : decode c_Md_turn 157 = .ok (.aload_n 0, 1) := by decide +kernel
theorem d_Md_turn_158 : decode c_Md_turn 158 = .ok (.getfield 17, 3) := by decide +kernel
theorem d_Md_turn_161 : decode c_Md_turn 161 = .ok (.iload_n 2, 1) := by decide +kernel
theorem d_Md_turn_162 : decode c_Md_turn 162 = .ok (.iload 5, 2) := by decide +kernel
theorem d_Md_turn_164 : decode c_Md_turn 164 = .ok (.iastore, 1) := by decide +kernel
theorem d_Md_turn_165 : decode c_Md_turn 165 = .ok (.aload_n 0, 1) := by decide +kernel
theorem d_Md_turn_166 : decode c_Md_turn 166 = .ok (.getfield 23, 3) := by decide +kernel
theorem d_Md_turn_169 : decode c_Md_turn 169 = .ok (.iload_n 2, 1) := by decide +kernel
theorem d_Md_turn_170 : decode c_Md_turn 170 = .ok (.iload_n 3, 1) := by decide +kernel
theorem d_Md_turn_171 : decode c_Md_turn 171 = .ok (.iastore, 1) := by decide +kernel
theorem d_Md_turn_172 : decode c_Md_turn 172 = .ok (.aload_n 0, 1) := by decide +kernel
theorem d_Md_turn_173 : decode c_Md_turn 173 = .ok (.getfield 26, 3) := by decide +kernel
theorem d_Md_turn_176 : decode c_Md_turn 176 = .ok (.iload_n 2, 1) := by decide +kernel
theorem d_Md_turn_177 : decode c_Md_turn 177 = .ok (.iload 4, 2) := by decide +kernel
theorem d_Md_turn_179 : decode c_Md_turn 179 = .ok (.iastore, 1) := by decide +kernel
theorem d_Md_turn_180 : decode c_Md_turn 180 = .ok (.aload_n 0, 1) := by decide +kernel
theorem d_Md_turn_181 : decode c_Md_turn 181 = .ok (.getfield 32, 3) := by decide +kernel
theorem d_Md_turn_184 : decode c_Md_turn 184 = .ok (.iload_n 2, 1) := by decide +kernel
theorem d_Md_turn_185 : decode c_Md_turn 185 = .ok (.iload 6, 2) := by decide +kernel
theorem d_Md_turn_187 : decode c_Md_turn 187 = .ok (.bastore, 1) := by decide +kernel
theorem d_Md_turn_188 : decode c_Md_turn 188 = .ok (.iconst 0, 1) := by decide +kernel
theorem d_Md_turn_189 : decode c_Md_turn 189 = .ok (.istore 7, 2) := by decide +kernel
theorem d_Md_turn_191 : decode c_Md_turn 191 = .ok (.iload 7, 2) := by decide +kernel
theorem d_Md_turn_193 : decode c_Md_turn 193 = .ok (.iload 5, 2) := by decide +kernel
theorem d_Md_turn_195 : decode c_Md_turn 195 = .ok (.if_icmp .ge 47, 3) := by decide +kernel
theorem d_Md_turn_198 : decode c_Md_turn 198 = .ok (.aload_n 0, 1) := by decide +kernel
theorem d_Md_turn_199 : decode c_Md_turn 199 = .ok (.getfield 20, 3) := by decide +kernel
theorem d_Md_turn_202 : decode c_Md_turn 202 = .ok (.iload_n 2, 1) := by decide +kernel
theorem d_Md_turn_203 : decode c_Md_turn 203 = .ok (.bipush 8, 2) := by decide +kernel
theorem d_Md_turn_205 : decode c_Md_turn 205 = .ok (.imul, 1) := by decide +kernel
theorem d_Md_turn_206 : decode c_Md_turn 206 = .ok (.iload 7, 2) := by decide +kernel
theorem d_Md_turn_208 : decode c_Md_turn 208 = .ok (.iadd, 1) := by decide +kernel
theorem d_Md_turn_209 : decode c_Md_turn 209 = .ok (.aload_n 0, 1) := by decide +kernel
theorem d_Md_turn_210 : decode c_Md_turn 210 = .ok (.getfield 48, 3) := by decide +kernel
theorem d_Md_turn_213 : decode c_Md_turn 213 = .ok (.iload 7, 2) := by decide +kernel
theorem d_Md_turn_215 : decode c_Md_turn 215 = .ok (.iaload, 1) := by decide +kernel
theorem d_Md_turn_216 : decode c_Md_turn 216 = .ok (.iastore, 1) := by decide +kernel
theorem d_Md_turn_217 : decode c_Md_turn 217 = .ok (.aload_n 0, 1) := by decide +kernel
theorem d_Md_turn_218 : decode c_Md_turn 218 = .ok (.getfield 29, 3) := by decide +kernel
theorem d_Md_turn_221 : decode c_Md_turn 221 = .ok (.iload_n 2, 1) := by decide +kernel
theorem d_Md_turn_222 : decode c_Md_turn 222 = .ok (.bipush 8, 2) := by decide +kernel
theorem d_Md_turn_224 : decode c_Md_turn 224 = .ok (.imul, 1) := by decide +kernel
theorem d_Md_turn_225 : decode c_Md_turn 225 = .ok (.iload 7, 2) := by decide +kernel
theorem d_Md_turn_227 : decode c_Md_turn 227 = .ok (.iadd, 1) := by decide +kernel
theorem d_Md_turn_228 : decode c_Md_turn 228 = .ok (.aload_n 0, 1) := by decide +kernel
theorem d_Md_turn_229 : decode c_Md_turn 229 = .ok (.getfield 51, 3) := by decide +kernel
theorem d_Md_turn_232 : decode c_Md_turn 232 = .ok (.iload 7, 2) := by decide +kernel
theorem d_Md_turn_234 : decode c_Md_turn 234 = .ok (.iaload, 1) := by decide +kernel
theorem d_Md_turn_235 : decode c_Md_turn 235 = .ok (.iastore, 1) := by decide +kernel
theorem d_Md_turn_236 : decode c_Md_turn 236 = .ok (.iinc 7 1, 3) := by decide +kernel
theorem d_Md_turn_239 : decode c_Md_turn 239 = .ok (.goto (-48), 3) := by decide +kernel
theorem d_Md_turn_242 : decode c_Md_turn 242 = .ok (.return_, 1) := by decide +kernel
theorem d_Md_size_0 : decode c_Md_size 0 = .ok (.aload_n 0, 1) := by decide +kernel
theorem d_Md_size_1 : decode c_Md_size 1 = .ok (.iconst 0, 1) := by decide +kernel
theorem d_Md_size_2 : decode c_Md_size 2 = .ok (.putfield 83, 3) := by decide +kernel
theorem d_Md_size_5 : decode c_Md_size 5 = .ok (.aload_n 0, 1) := by decide +kernel
theorem d_Md_size_6 : decode c_Md_size 6 = .ok (.getfield 154, 3) := by decide +kernel
theorem d_Md_size_9 : decode c_Md_size 9 = .ok (.ireturn, 1) := by decide +kernel
theorem d_Md_letter_0 : decode c_Md_letter 0 = .ok (.aload_n 0, 1) := by decide +kernel
theorem d_Md_letter_1 : decode c_Md_letter 1 = .ok (.iload_n 1, 1) := by decide +kernel
theorem d_Md_letter_2 : decode c_Md_letter 2 = .ok (.iconst 0, 1) := by decide +kernel
theorem d_Md_letter_3 : decode c_Md_letter 3 = .ok (.aload_n 0, 1) := by decide +kernel
theorem d_Md_letter_4 : decode c_Md_letter 4 = .ok (.getfield 154, 3) := by decide +kernel
theorem d_Md_letter_7 : decode c_Md_letter 7 = .ok (.iconst 1, 1) := by decide +kernel
theorem d_Md_letter_8 : decode c_Md_letter 8 = .ok (.isub, 1) := by decide +kernel
theorem d_Md_letter_9 : decode c_Md_letter 9 = .ok (.invokestatic 86, 3) := by decide +kernel
theorem d_Md_letter_12 : decode c_Md_letter 12 = .ok (.ifCond .eq 7, 3) := by decide +kernel
theorem d_Md_letter_15 : decode c_Md_letter 15 = .ok (.iconst 0, 1) := by decide +kernel
theorem d_Md_letter_16 : decode c_Md_letter 16 = .ok (.goto 4, 3) := by decide +kernel
theorem d_Md_letter_19 : decode c_Md_letter 19 = .ok (.iconst 1, 1) := by decide +kernel
theorem d_Md_letter_20 : decode c_Md_letter 20 = .ok (.putfield 83, 3) := by decide +kernel
theorem d_Md_letter_23 : decode c_Md_letter 23 = .ok (.aload_n 0, 1) := by decide +kernel
theorem d_Md_letter_24 : decode c_Md_letter 24 = .ok (.getfield 83, 3) := by decide +kernel
theorem d_Md_letter_27 : decode c_Md_letter 27 = .ok (.ifCond .le 7, 3) := by decide +kernel
theorem d_Md_letter_30 : decode c_Md_letter 30 = .ok (.iconst 0, 1) := by decide +kernel
theorem d_Md_letter_31 : decode c_Md_letter 31 = .ok (.goto 9, 3) := by decide +kernel
theorem d_Md_letter_34 : decode c_Md_letter 34 = .ok (.aload_n 0, 1) := by decide +kernel
theorem d_Md_letter_35 : decode c_Md_letter 35 = .ok (.getfield 36, 3) := by decide +kernel
theorem d_Md_letter_38 : decode c_Md_letter 38 = .ok (.iload_n 1, 1) := by decide +kernel
theorem d_Md_letter_39 : decode c_Md_letter 39 = .ok (.iaload, 1) := by decide +kernel
theorem d_Md_letter_40 : decode c_Md_letter 40 = .ok (.ireturn, 1) := by decide +kernel
