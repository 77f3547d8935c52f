/-! THE LAW: its instructions -/
theorem d_Lw_feed_0 : decode c_Lw_feed 0 = .ok (.aload 4, 2) := by decide +kernel
theorem d_Lw_feed_2 : decode c_Lw_feed 2 = .ok (.iconst 0, 1) := by decide +kernel
theorem d_Lw_feed_3 : decode c_Lw_feed 3 = .ok (.aload_n 0, 1) := by decide +kernel
theorem d_Lw_feed_4 : decode c_Lw_feed 4 = .ok (.lload_n 1, 1) := by decide +kernel
theorem d_Lw_feed_5 : decode c_Lw_feed 5 = .ok (.iload_n 3, 1) := by decide +kernel
theorem d_Lw_feed_6 : decode c_Lw_feed 6 = .ok (.invokevirtual 7, 3) := by decide +kernel
theorem d_Lw_feed_9 : decode c_Lw_feed 9 = .ok (.i2l, 1) := by decide +kernel
theorem d_Lw_feed_10 : decode c_Lw_feed 10 = .ok (.lastore, 1) := by decide +kernel
theorem d_Lw_feed_11 : decode c_Lw_feed 11 = .ok (.goto 11, 3) := by decide +kernel
theorem d_Lw_feed_14 : decode c_Lw_feed 14 = .ok (.astore 5, 2) := by decide +kernel
theorem d_Lw_feed_16 : decode c_Lw_feed 16 = .ok (.iconst 1, 1) := by decide +kernel
theorem d_Lw_feed_17 : decode c_Lw_feed 17 = .ok (.ireturn, 1) := by decide +kernel
theorem d_Lw_feed_18 : decode c_Lw_feed 18 = .ok (.astore 5, 2) := by decide +kernel
theorem d_Lw_feed_20 : decode c_Lw_feed 20 = .ok (.iconst 2, 1) := by decide +kernel
theorem d_Lw_feed_21 : decode c_Lw_feed 21 = .ok (.ireturn, 1) := by decide +kernel
theorem d_Lw_feed_22 : decode c_Lw_feed 22 = .ok (.iconst 0, 1) := by decide +kernel
theorem d_Lw_feed_23 : decode c_Lw_feed 23 = .ok (.ireturn, 1) := by decide +kernel
theorem cw_Lw_feed : Cond.codeWith y_Lw_feed c_Lw_feed 6 (some .int) [(0, 11, 14, 13), (0, 11, 18, 15)] ∈ wsU := by decide +kernel
theorem d_Lw_read_0 : decode c_Lw_read 0 = .ok (.aload_n 2, 1) := by decide +kernel
theorem d_Lw_read_1 : decode c_Lw_read 1 = .ok (.iconst 0, 1) := by decide +kernel
theorem d_Lw_read_2 : decode c_Lw_read 2 = .ok (.aload_n 0, 1) := by decide +kernel
theorem d_Lw_read_3 : decode c_Lw_read 3 = .ok (.iload_n 1, 1) := by decide +kernel
theorem d_Lw_read_4 : decode c_Lw_read 4 = .ok (.invokevirtual 17, 3) := by decide +kernel
theorem d_Lw_read_7 : decode c_Lw_read 7 = .ok (.i2l, 1) := by decide +kernel
theorem d_Lw_read_8 : decode c_Lw_read 8 = .ok (.lastore, 1) := by decide +kernel
theorem d_Lw_read_9 : decode c_Lw_read 9 = .ok (.goto 6, 3) := by decide +kernel
theorem d_Lw_read_12 : decode c_Lw_read 12 = .ok (.astore_n 3, 1) := by decide +kernel
theorem d_Lw_read_13 : decode c_Lw_read 13 = .ok (.iconst 1, 1) := by decide +kernel
theorem d_Lw_read_14 : decode c_Lw_read 14 = .ok (.ireturn, 1) := by decide +kernel
theorem d_Lw_read_15 : decode c_Lw_read 15 = .ok (.iconst 0, 1) := by decide +kernel
theorem d_Lw_read_16 : decode c_Lw_read 16 = .ok (.ireturn, 1) := by decide +kernel
theorem cw_Lw_read : Cond.codeWith y_Lw_read c_Lw_read 4 (some .int) [(0, 9, 12, 13)] ∈ wsU := by decide +kernel
theorem d_Lw_has_0 : decode c_Lw_has 0 = .ok (.aload_n 2, 1) := by decide +kernel
theorem d_Lw_has_1 : decode c_Lw_has 1 = .ok (.iconst 0, 1) := by decide +kernel
theorem d_Lw_has_2 : decode c_Lw_has 2 = .ok (.aload_n 0, 1) := by decide +kernel
theorem d_Lw_has_3 : decode c_Lw_has 3 = .ok (.iload_n 1, 1) := by decide +kernel
theorem d_Lw_has_4 : decode c_Lw_has 4 = .ok (.invokevirtual 21, 3) := by decide +kernel
theorem d_Lw_has_7 : decode c_Lw_has 7 = .ok (.ifCond .eq 7, 3) := by decide +kernel
theorem d_Lw_has_10 : decode c_Lw_has 10 = .ok (.lconst 1, 1) := by decide +kernel
theorem d_Lw_has_11 : decode c_Lw_has 11 = .ok (.goto 4, 3) := by decide +kernel
theorem d_Lw_has_14 : decode c_Lw_has 14 = .ok (.lconst 0, 1) := by decide +kernel
theorem d_Lw_has_15 : decode c_Lw_has 15 = .ok (.lastore, 1) := by decide +kernel
theorem d_Lw_has_16 : decode c_Lw_has 16 = .ok (.goto 6, 3) := by decide +kernel
theorem d_Lw_has_19 : decode c_Lw_has 19 = .ok (.astore_n 3, 1) := by decide +kernel
theorem d_Lw_has_20 : decode c_Lw_has 20 = .ok (.iconst 1, 1) := by decide +kernel
theorem d_Lw_has_21 : decode c_Lw_has 21 = .ok (.ireturn, 1) := by decide +kernel
theorem d_Lw_has_22 : decode c_Lw_has 22 = .ok (.iconst 0, 1) := by decide +kernel
theorem d_Lw_has_23 : decode c_Lw_has 23 = .ok (.ireturn, 1) := by decide +kernel
theorem cw_Lw_has : Cond.codeWith y_Lw_has c_Lw_has 4 (some .int) [(0, 16, 19, 13)] ∈ wsU := by decide +kernel
theorem d_Lw_compare_0 : decode c_Lw_compare 0 = .ok (.aload_n 3, 1) := by decide +kernel
theorem d_Lw_compare_1 : decode c_Lw_compare 1 = .ok (.iconst 0, 1) := by decide +kernel
theorem d_Lw_compare_2 : decode c_Lw_compare 2 = .ok (.aload_n 0, 1) := by decide +kernel
theorem d_Lw_compare_3 : decode c_Lw_compare 3 = .ok (.iload_n 1, 1) := by decide +kernel
theorem d_Lw_compare_4 : decode c_Lw_compare 4 = .ok (.iload_n 2, 1) := by decide +kernel
theorem d_Lw_compare_5 : decode c_Lw_compare 5 = .ok (.invokevirtual 25, 3) := by decide +kernel
theorem d_Lw_compare_8 : decode c_Lw_compare 8 = .ok (.i2l, 1) := by decide +kernel
theorem d_Lw_compare_9 : decode c_Lw_compare 9 = .ok (.lastore, 1) := by decide +kernel
theorem d_Lw_compare_10 : decode c_Lw_compare 10 = .ok (.goto 7, 3) := by decide +kernel
theorem d_Lw_compare_13 : decode c_Lw_compare 13 = .ok (.astore 4, 2) := by decide +kernel
theorem d_Lw_compare_15 : decode c_Lw_compare 15 = .ok (.iconst 1, 1) := by decide +kernel
theorem d_Lw_compare_16 : decode c_Lw_compare 16 = .ok (.ireturn, 1) := by decide +kernel
theorem d_Lw_compare_17 : decode c_Lw_compare 17 = .ok (.iconst 0, 1) := by decide +kernel
theorem d_Lw_compare_18 : decode c_Lw_compare 18 = .ok (.ireturn, 1) := by decide +kernel
theorem cw_Lw_compare : Cond.codeWith y_Lw_compare c_Lw_compare 5 (some .int) [(0, 10, 13, 13)] ∈ wsU := by decide +kernel
theorem d_Lw_contains_0 : decode c_Lw_contains 0 = .ok (.aload_n 3, 1) := by decide +kernel
theorem d_Lw_contains_1 : decode c_Lw_contains 1 = .ok (.iconst 0, 1) := by decide +kernel
theorem d_Lw_contains_2 : decode c_Lw_contains 2 = .ok (.aload_n 0, 1) := by decide +kernel
theorem d_Lw_contains_3 : decode c_Lw_contains 3 = .ok (.iload_n 1, 1) := by decide +kernel
theorem d_Lw_contains_4 : decode c_Lw_contains 4 = .ok (.iload_n 2, 1) := by decide +kernel
theorem d_Lw_contains_5 : decode c_Lw_contains 5 = .ok (.invokevirtual 29, 3) := by decide +kernel
theorem d_Lw_contains_8 : decode c_Lw_contains 8 = .ok (.ifCond .eq 7, 3) := by decide +kernel
theorem d_Lw_contains_11 : decode c_Lw_contains 11 = .ok (.lconst 1, 1) := by decide +kernel
theorem d_Lw_contains_12 : decode c_Lw_contains 12 = .ok (.goto 4, 3) := by decide +kernel
theorem d_Lw_contains_15 : decode c_Lw_contains 15 = .ok (.lconst 0, 1) := by decide +kernel
theorem d_Lw_contains_16 : decode c_Lw_contains 16 = .ok (.lastore, 1) := by decide +kernel
theorem d_Lw_contains_17 : decode c_Lw_contains 17 = .ok (.goto 7, 3) := by decide +kernel
theorem d_Lw_contains_20 : decode c_Lw_contains 20 = .ok (.astore 4, 2) := by decide +kernel
theorem d_Lw_contains_22 : decode c_Lw_contains 22 = .ok (.iconst 1, 1) := by decide +kernel
theorem d_Lw_contains_23 : decode c_Lw_contains 23 = .ok (.ireturn, 1) := by decide +kernel
theorem d_Lw_contains_24 : decode c_Lw_contains 24 = .ok (.iconst 0, 1) := by decide +kernel
theorem d_Lw_contains_25 : decode c_Lw_contains 25 = .ok (.ireturn, 1) := by decide +kernel
theorem cw_Lw_contains : Cond.codeWith y_Lw_contains c_Lw_contains 5 (some .int) [(0, 17, 20, 13)] ∈ wsU := by decide +kernel
theorem d_Lw_least_0 : decode c_Lw_least 0 = .ok (.aload_n 2, 1) := by decide +kernel
theorem d_Lw_least_1 : decode c_Lw_least 1 = .ok (.iconst 0, 1) := by decide +kernel
theorem d_Lw_least_2 : decode c_Lw_least 2 = .ok (.aload_n 0, 1) := by decide +kernel
theorem d_Lw_least_3 : decode c_Lw_least 3 = .ok (.iload_n 1, 1) := by decide +kernel
theorem d_Lw_least_4 : decode c_Lw_least 4 = .ok (.invokevirtual 33, 3) := by decide +kernel
theorem d_Lw_least_7 : decode c_Lw_least 7 = .ok (.i2l, 1) := by decide +kernel
theorem d_Lw_least_8 : decode c_Lw_least 8 = .ok (.lastore, 1) := by decide +kernel
theorem d_Lw_least_9 : decode c_Lw_least 9 = .ok (.goto 6, 3) := by decide +kernel
theorem d_Lw_least_12 : decode c_Lw_least 12 = .ok (.astore_n 3, 1) := by decide +kernel
theorem d_Lw_least_13 : decode c_Lw_least 13 = .ok (.iconst 1, 1) := by decide +kernel
theorem d_Lw_least_14 : decode c_Lw_least 14 = .ok (.ireturn, 1) := by decide +kernel
theorem d_Lw_least_15 : decode c_Lw_least 15 = .ok (.iconst 0, 1) := by decide +kernel
theorem d_Lw_least_16 : decode c_Lw_least 16 = .ok (.ireturn, 1) := by decide +kernel
theorem cw_Lw_least : Cond.codeWith y_Lw_least c_Lw_least 4 (some .int) [(0, 9, 12, 13)] ∈ wsU := by decide +kernel
theorem d_Lw_count_0 : decode c_Lw_count 0 = .ok (.aload_n 3, 1) := by decide +kernel
theorem d_Lw_count_1 : decode c_Lw_count 1 = .ok (.iconst 0, 1) := by decide +kernel
theorem d_Lw_count_2 : decode c_Lw_count 2 = .ok (.aload_n 0, 1) := by decide +kernel
theorem d_Lw_count_3 : decode c_Lw_count 3 = .ok (.iload_n 1, 1) := by decide +kernel
theorem d_Lw_count_4 : decode c_Lw_count 4 = .ok (.iload_n 2, 1) := by decide +kernel
theorem d_Lw_count_5 : decode c_Lw_count 5 = .ok (.invokevirtual 36, 3) := by decide +kernel
theorem d_Lw_count_8 : decode c_Lw_count 8 = .ok (.lastore, 1) := by decide +kernel
theorem d_Lw_count_9 : decode c_Lw_count 9 = .ok (.goto 7, 3) := by decide +kernel
theorem d_Lw_count_12 : decode c_Lw_count 12 = .ok (.astore 4, 2) := by decide +kernel
theorem d_Lw_count_14 : decode c_Lw_count 14 = .ok (.iconst 1, 1) := by decide +kernel
theorem d_Lw_count_15 : decode c_Lw_count 15 = .ok (.ireturn, 1) := by decide +kernel
theorem d_Lw_count_16 : decode c_Lw_count 16 = .ok (.iconst 0, 1) := by decide +kernel
theorem d_Lw_count_17 : decode c_Lw_count 17 = .ok (.ireturn, 1) := by decide +kernel
theorem cw_Lw_count : Cond.codeWith y_Lw_count c_Lw_count 5 (some .int) [(0, 9, 12, 13)] ∈ wsU := by decide +kernel
theorem d_Lw_word_0 : decode c_Lw_word 0 = .ok (.aload 5, 2) := by decide +kernel
theorem d_Lw_word_2 : decode c_Lw_word 2 = .ok (.iconst 0, 1) := by decide +kernel
theorem d_Lw_word_3 : decode c_Lw_word 3 = .ok (.aload_n 0, 1) := by decide +kernel
theorem d_Lw_word_4 : decode c_Lw_word 4 = .ok (.iload_n 1, 1) := by decide +kernel
theorem d_Lw_word_5 : decode c_Lw_word 5 = .ok (.iload_n 2, 1) := by decide +kernel
theorem d_Lw_word_6 : decode c_Lw_word 6 = .ok (.lload_n 3, 1) := by decide +kernel
theorem d_Lw_word_7 : decode c_Lw_word 7 = .ok (.invokevirtual 40, 3) := by decide +kernel
theorem d_Lw_word_10 : decode c_Lw_word 10 = .ok (.ifCond .eq 7, 3) := by decide +kernel
theorem d_Lw_word_13 : decode c_Lw_word 13 = .ok (.lconst 1, 1) := by decide +kernel
theorem d_Lw_word_14 : decode c_Lw_word 14 = .ok (.goto 4, 3) := by decide +kernel
theorem d_Lw_word_17 : decode c_Lw_word 17 = .ok (.lconst 0, 1) := by decide +kernel
theorem d_Lw_word_18 : decode c_Lw_word 18 = .ok (.lastore, 1) := by decide +kernel
theorem d_Lw_word_19 : decode c_Lw_word 19 = .ok (.goto 7, 3) := by decide +kernel
theorem d_Lw_word_22 : decode c_Lw_word 22 = .ok (.astore 6, 2) := by decide +kernel
theorem d_Lw_word_24 : decode c_Lw_word 24 = .ok (.iconst 1, 1) := by decide +kernel
theorem d_Lw_word_25 : decode c_Lw_word 25 = .ok (.ireturn, 1) := by decide +kernel
theorem d_Lw_word_26 : decode c_Lw_word 26 = .ok (.iconst 0, 1) := by decide +kernel
theorem d_Lw_word_27 : decode c_Lw_word 27 = .ok (.ireturn, 1) := by decide +kernel
theorem cw_Lw_word : Cond.codeWith y_Lw_word c_Lw_word 7 (some .int) [(0, 19, 22, 13)] ∈ wsU := by decide +kernel
theorem d_Lw_states_0 : decode c_Lw_states 0 = .ok (.aload_n 2, 1) := by decide +kernel
theorem d_Lw_states_1 : decode c_Lw_states 1 = .ok (.iconst 0, 1) := by decide +kernel
theorem d_Lw_states_2 : decode c_Lw_states 2 = .ok (.aload_n 0, 1) := by decide +kernel
theorem d_Lw_states_3 : decode c_Lw_states 3 = .ok (.iload_n 1, 1) := by decide +kernel
theorem d_Lw_states_4 : decode c_Lw_states 4 = .ok (.invokevirtual 44, 3) := by decide +kernel
theorem d_Lw_states_7 : decode c_Lw_states 7 = .ok (.i2l, 1) := by decide +kernel
theorem d_Lw_states_8 : decode c_Lw_states 8 = .ok (.lastore, 1) := by decide +kernel
theorem d_Lw_states_9 : decode c_Lw_states 9 = .ok (.goto 6, 3) := by decide +kernel
theorem d_Lw_states_12 : decode c_Lw_states 12 = .ok (.astore_n 3, 1) := by decide +kernel
theorem d_Lw_states_13 : decode c_Lw_states 13 = .ok (.iconst 1, 1) := by decide +kernel
theorem d_Lw_states_14 : decode c_Lw_states 14 = .ok (.ireturn, 1) := by decide +kernel
theorem d_Lw_states_15 : decode c_Lw_states 15 = .ok (.iconst 0, 1) := by decide +kernel
theorem d_Lw_states_16 : decode c_Lw_states 16 = .ok (.ireturn, 1) := by decide +kernel
theorem cw_Lw_states : Cond.codeWith y_Lw_states c_Lw_states 4 (some .int) [(0, 9, 12, 13)] ∈ wsU := by decide +kernel
theorem d_Lw_turn_0 : decode c_Lw_turn 0 = .ok (.aload_n 0, 1) := by decide +kernel
theorem d_Lw_turn_1 : decode c_Lw_turn 1 = .ok (.iload_n 1, 1) := by decide +kernel
theorem d_Lw_turn_2 : decode c_Lw_turn 2 = .ok (.iload_n 2, 1) := by decide +kernel
theorem d_Lw_turn_3 : decode c_Lw_turn 3 = .ok (.invokevirtual 47, 3) := by decide +kernel
theorem d_Lw_turn_6 : decode c_Lw_turn 6 = .ok (.goto 6, 3) := by decide +kernel
theorem d_Lw_turn_9 : decode c_Lw_turn 9 = .ok (.astore_n 3, 1) := by decide +kernel
theorem d_Lw_turn_10 : decode c_Lw_turn 10 = .ok (.iconst 1, 1) := by decide +kernel
theorem d_Lw_turn_11 : decode c_Lw_turn 11 = .ok (.ireturn, 1) := by decide +kernel
theorem d_Lw_turn_12 : decode c_Lw_turn 12 = .ok (.iconst 0, 1) := by decide +kernel
theorem d_Lw_turn_13 : decode c_Lw_turn 13 = .ok (.ireturn, 1) := by decide +kernel
theorem cw_Lw_turn : Cond.codeWith y_Lw_turn c_Lw_turn 4 (some .int) [(0, 6, 9, 13)] ∈ wsU := by decide +kernel
theorem d_Lw_letter_0 : decode c_Lw_letter 0 = .ok (.aload_n 2, 1) := by decide +kernel
theorem d_Lw_letter_1 : decode c_Lw_letter 1 = .ok (.iconst 0, 1) := by decide +kernel
theorem d_Lw_letter_2 : decode c_Lw_letter 2 = .ok (.aload_n 0, 1) := by decide +kernel
theorem d_Lw_letter_3 : decode c_Lw_letter 3 = .ok (.iload_n 1, 1) := by decide +kernel
theorem d_Lw_letter_4 : decode c_Lw_letter 4 = .ok (.invokevirtual 51, 3) := by decide +kernel
theorem d_Lw_letter_7 : decode c_Lw_letter 7 = .ok (.i2l, 1) := by decide +kernel
theorem d_Lw_letter_8 : decode c_Lw_letter 8 = .ok (.lastore, 1) := by decide +kernel
theorem d_Lw_letter_9 : decode c_Lw_letter 9 = .ok (.goto 6, 3) := by decide +kernel
theorem d_Lw_letter_12 : decode c_Lw_letter 12 = .ok (.astore_n 3, 1) := by decide +kernel
theorem d_Lw_letter_13 : decode c_Lw_letter 13 = .ok (.iconst 1, 1) := by decide +kernel
theorem d_Lw_letter_14 : decode c_Lw_letter 14 = .ok (.ireturn, 1) := by decide +kernel
theorem d_Lw_letter_15 : decode c_Lw_letter 15 = .ok (.iconst 0, 1) := by decide +kernel
theorem d_Lw_letter_16 : decode c_Lw_letter 16 = .ok (.ireturn, 1) := by decide +kernel
theorem cw_Lw_letter : Cond.codeWith y_Lw_letter c_Lw_letter 4 (some .int) [(0, 9, 12, 54)] ∈ wsU := by decide +kernel
theorem d_law_0 : decode code 0 = .ok (.new 8, 3) := by decide +kernel
theorem d_law_3 : decode code 3 = .ok (.dup, 1) := by decide +kernel
theorem d_law_4 : decode code 4 = .ok (.invokespecial 56, 3) := by decide +kernel
theorem d_law_7 : decode code 7 = .ok (.astore_n 1, 1) := by decide +kernel
theorem d_law_8 : decode code 8 = .ok (.new 57, 3) := by decide +kernel
theorem d_law_11 : decode code 11 = .ok (.dup, 1) := by decide +kernel
theorem d_law_12 : decode code 12 = .ok (.invokespecial 59, 3) := by decide +kernel
theorem d_law_15 : decode code 15 = .ok (.astore_n 2, 1) := by decide +kernel
theorem d_law_16 : decode code 16 = .ok (.iconst 1, 1) := by decide +kernel
theorem d_law_17 : decode code 17 = .ok (.newarray .long, 2) := by decide +kernel
theorem d_law_19 : decode code 19 = .ok (.astore_n 3, 1) := by decide +kernel
theorem d_law_20 : decode code 20 = .ok (.iconst 0, 1) := by decide +kernel
theorem d_law_21 : decode code 21 = .ok (.istore 4, 2) := by decide +kernel
theorem d_law_23 : decode code 23 = .ok (.iload 4, 2) := by decide +kernel
theorem d_law_25 : decode code 25 = .ok (.aload_n 0, 1) := by decide +kernel
theorem d_law_26 : decode code 26 = .ok (.arraylength, 1) := by decide +kernel
theorem d_law_27 : decode code 27 = .ok (.iconst 5, 1) := by decide +kernel
theorem d_law_28 : decode code 28 = .ok (.isub, 1) := by decide +kernel
theorem d_law_29 : decode code 29 = .ok (.if_icmp .gt 871, 3) := by decide +kernel
theorem d_law_32 : decode code 32 = .ok (.aload_n 0, 1) := by decide +kernel
theorem d_law_33 : decode code 33 = .ok (.iload 4, 2) := by decide +kernel
theorem d_law_35 : decode code 35 = .ok (.iaload, 1) := by decide +kernel
theorem d_law_36 : decode code 36 = .ok (.bipush 15, 2) := by decide +kernel
theorem d_law_38 : decode code 38 = .ok (.iand, 1) := by decide +kernel
theorem d_law_39 : decode code 39 = .ok (.tableswitch 855 0 12 #[65, 165, 221, 234, 297, 365, 440, 496, 563, 682, 738, 786, 799], 65) := by decide +kernel
theorem d_law_104 : decode code 104 = .ok (.aload_n 1, 1) := by decide +kernel
theorem d_law_105 : decode code 105 = .ok (.aload_n 0, 1) := by decide +kernel
theorem d_law_106 : decode code 106 = .ok (.iload 4, 2) := by decide +kernel
theorem d_law_108 : decode code 108 = .ok (.iconst 1, 1) := by decide +kernel
theorem d_law_109 : decode code 109 = .ok (.iadd, 1) := by decide +kernel
theorem d_law_110 : decode code 110 = .ok (.iaload, 1) := by decide +kernel
theorem d_law_111 : decode code 111 = .ok (.i2l, 1) := by decide +kernel
theorem d_law_112 : decode code 112 = .ok (.bipush 32, 2) := by decide +kernel
theorem d_law_114 : decode code 114 = .ok (.lshl, 1) := by decide +kernel
theorem d_law_115 : decode code 115 = .ok (.aload_n 0, 1) := by decide +kernel
theorem d_law_116 : decode code 116 = .ok (.iload 4, 2) := by decide +kernel
theorem d_law_118 : decode code 118 = .ok (.iconst 2, 1) := by decide +kernel
theorem d_law_119 : decode code 119 = .ok (.iadd, 1) := by decide +kernel
theorem d_law_120 : decode code 120 = .ok (.iaload, 1) := by decide +kernel
theorem d_law_121 : decode code 121 = .ok (.i2l, 1) := by decide +kernel
theorem d_law_122 : decode code 122 = .ok (.ldc2_w 60, 3) := by decide +kernel
theorem d_law_125 : decode code 125 = .ok (.land, 1) := by decide +kernel
theorem d_law_126 : decode code 126 = .ok (.lor, 1) := by decide +kernel
theorem d_law_127 : decode code 127 = .ok (.aload_n 0, 1) := by decide +kernel
theorem d_law_128 : decode code 128 = .ok (.iload 4, 2) := by decide +kernel
theorem d_law_130 : decode code 130 = .ok (.iconst 3, 1) := by decide +kernel
theorem d_law_131 : decode code 131 = .ok (.iadd, 1) := by decide +kernel
theorem d_law_132 : decode code 132 = .ok (.iaload, 1) := by decide +kernel
theorem d_law_133 : decode code 133 = .ok (.aload_n 3, 1) := by decide +kernel
theorem d_law_134 : decode code 134 = .ok (.invokestatic 62, 3) := by decide +kernel
theorem d_law_137 : decode code 137 = .ok (.istore 5, 2) := by decide +kernel
theorem d_law_139 : decode code 139 = .ok (.aload_n 2, 1) := by decide +kernel
theorem d_law_140 : decode code 140 = .ok (.aload_n 0, 1) := by decide +kernel
theorem d_law_141 : decode code 141 = .ok (.iload 4, 2) := by decide +kernel
theorem d_law_143 : decode code 143 = .ok (.iconst 1, 1) := by decide +kernel
theorem d_law_144 : decode code 144 = .ok (.iadd, 1) := by decide +kernel
theorem d_law_145 : decode code 145 = .ok (.iaload, 1) := by decide +kernel
theorem d_law_146 : decode code 146 = .ok (.i2l, 1) := by decide +kernel
theorem d_law_147 : decode code 147 = .ok (.bipush 32, 2) := by decide +kernel
theorem d_law_149 : decode code 149 = .ok (.lshl, 1) := by decide +kernel
theorem d_law_150 : decode code 150 = .ok (.aload_n 0, 1) := by decide +kernel
theorem d_law_151 : decode code 151 = .ok (.iload 4, 2) := by decide +kernel
theorem d_law_153 : decode code 153 = .ok (.iconst 2, 1) := by decide +kernel
theorem d_law_154 : decode code 154 = .ok (.iadd, 1) := by decide +kernel
theorem d_law_155 : decode code 155 = .ok (.iaload, 1) := by decide +kernel
theorem d_law_156 : decode code 156 = .ok (.i2l, 1) := by decide +kernel
theorem d_law_157 : decode code 157 = .ok (.ldc2_w 60, 3) := by decide +kernel
theorem d_law_160 : decode code 160 = .ok (.land, 1) := by decide +kernel
theorem d_law_161 : decode code 161 = .ok (.lor, 1) := by decide +kernel
theorem d_law_162 : decode code 162 = .ok (.aload_n 0, 1) := by decide +kernel
theorem d_law_163 : decode code 163 = .ok (.iload 4, 2) := by decide +kernel
theorem d_law_165 : decode code 165 = .ok (.iconst 3, 1) := by decide +kernel
theorem d_law_166 : decode code 166 = .ok (.iadd, 1) := by decide +kernel
theorem d_law_167 : decode code 167 = .ok (.iaload, 1) := by decide +kernel
theorem d_law_168 : decode code 168 = .ok (.invokevirtual 67, 3) := by decide +kernel
theorem d_law_171 : decode code 171 = .ok (.istore 6, 2) := by decide +kernel
theorem d_law_173 : decode code 173 = .ok (.aload_n 2, 1) := by decide +kernel
theorem d_law_174 : decode code 174 = .ok (.invokevirtual 68, 3) := by decide +kernel
theorem d_law_177 : decode code 177 = .ok (.iload 5, 2) := by decide +kernel
theorem d_law_179 : decode code 179 = .ok (.if_icmp .eq 5, 3) := by decide +kernel
theorem d_law_182 : decode code 182 = .ok (.iconst 0, 1) := by decide +kernel
theorem d_law_183 : decode code 183 = .ok (.ireturn, 1) := by decide +kernel
theorem d_law_184 : decode code 184 = .ok (.iload 5, 2) := by decide +kernel
theorem d_law_186 : decode code 186 = .ok (.ifCond .ne 15, 3) := by decide +kernel
theorem d_law_189 : decode code 189 = .ok (.aload_n 3, 1) := by decide +kernel
theorem d_law_190 : decode code 190 = .ok (.iconst 0, 1) := by decide +kernel
theorem d_law_191 : decode code 191 = .ok (.laload, 1) := by decide +kernel
theorem d_law_192 : decode code 192 = .ok (.iload 6, 2) := by decide +kernel
theorem d_law_194 : decode code 194 = .ok (.i2l, 1) := by decide +kernel
theorem d_law_195 : decode code 195 = .ok (.lcmp, 1) := by decide +kernel
theorem d_law_196 : decode code 196 = .ok (.ifCond .eq 5, 3) := by decide +kernel
theorem d_law_199 : decode code 199 = .ok (.iconst 0, 1) := by decide +kernel
theorem d_law_200 : decode code 200 = .ok (.ireturn, 1) := by decide +kernel
theorem d_law_201 : decode code 201 = .ok (.goto 693, 3) := by decide +kernel
theorem d_law_204 : decode code 204 = .ok (.aload_n 1, 1) := by decide +kernel
theorem d_law_205 : decode code 205 = .ok (.aload_n 0, 1) := by decide +kernel
theorem d_law_206 : decode code 206 = .ok (.iload 4, 2) := by decide +kernel
theorem d_law_208 : decode code 208 = .ok (.iconst 1, 1) := by decide +kernel
theorem d_law_209 : decode code 209 = .ok (.iadd, 1) := by decide +kernel
theorem d_law_210 : decode code 210 = .ok (.iaload, 1) := by decide +kernel
theorem d_law_211 : decode code 211 = .ok (.aload_n 3, 1) := by decide +kernel
theorem d_law_212 : decode code 212 = .ok (.invokestatic 72, 3) := by decide +kernel
theorem d_law_215 : decode code 215 = .ok (.istore 5, 2) := by decide +kernel
theorem d_law_217 : decode code 217 = .ok (.aload_n 2, 1) := by decide +kernel
theorem d_law_218 : decode code 218 = .ok (.aload_n 0, 1) := by decide +kernel
theorem d_law_219 : decode code 219 = .ok (.iload 4, 2) := by decide +kernel
theorem d_law_221 : decode code 221 = .ok (.iconst 1, 1) := by decide +kernel
theorem d_law_222 : decode code 222 = .ok (.iadd, 1) := by decide +kernel
theorem d_law_223 : decode code 223 = .ok (.iaload, 1) := by decide +kernel
theorem d_law_224 : decode code 224 = .ok (.invokevirtual 75, 3) := by decide +kernel
theorem d_law_227 : decode code 227 = .ok (.istore 6, 2) := by decide +kernel
theorem d_law_229 : decode code 229 = .ok (.aload_n 2, 1) := by decide +kernel
theorem d_law_230 : decode code 230 = .ok (.invokevirtual 68, 3) := by decide +kernel
theorem d_law_233 : decode code 233 = .ok (.iload 5, 2) := by decide +kernel
theorem d_law_235 : decode code 235 = .ok (.if_icmp .eq 5, 3) := by decide +kernel
theorem d_law_238 : decode code 238 = .ok (.iconst 0, 1) := by decide +kernel
theorem d_law_239 : decode code 239 = .ok (.ireturn, 1) := by decide +kernel
theorem d_law_240 : decode code 240 = .ok (.iload 5, 2) := by decide +kernel
theorem d_law_242 : decode code 242 = .ok (.ifCond .ne 15, 3) := by decide +kernel
theorem d_law_245 : decode code 245 = .ok (.aload_n 3, 1) := by decide +kernel
theorem d_law_246 : decode code 246 = .ok (.iconst 0, 1) := by decide +kernel
theorem d_law_247 : decode code 247 = .ok (.laload, 1) := by decide +kernel
theorem d_law_248 : decode code 248 = .ok (.iload 6, 2) := by decide +kernel
theorem d_law_250 : decode code 250 = .ok (.i2l, 1) := by decide +kernel
theorem d_law_251 : decode code 251 = .ok (.lcmp, 1) := by decide +kernel
theorem d_law_252 : decode code 252 = .ok (.ifCond .eq 5, 3) := by decide +kernel
theorem d_law_255 : decode code 255 = .ok (.iconst 0, 1) := by decide +kernel
theorem d_law_256 : decode code 256 = .ok (.ireturn, 1) := by decide +kernel
theorem d_law_257 : decode code 257 = .ok (.goto 637, 3) := by decide +kernel
theorem d_law_260 : decode code 260 = .ok (.aload_n 1, 1) := by decide +kernel
theorem d_law_261 : decode code 261 = .ok (.invokevirtual 76, 3) := by decide +kernel
theorem d_law_264 : decode code 264 = .ok (.aload_n 2, 1) := by decide +kernel
theorem d_law_265 : decode code 265 = .ok (.invokevirtual 79, 3) := by decide +kernel
theorem d_law_268 : decode code 268 = .ok (.if_icmp .eq 626, 3) := by decide +kernel
theorem d_law_271 : decode code 271 = .ok (.iconst 0, 1) := by decide +kernel
theorem d_law_272 : decode code 272 = .ok (.ireturn, 1) := by decide +kernel
theorem d_law_273 : decode code 273 = .ok (.aload_n 1, 1) := by decide +kernel
theorem d_law_274 : decode code 274 = .ok (.aload_n 0, 1) := by decide +kernel
theorem d_law_275 : decode code 275 = .ok (.iload 4, 2) := by decide +kernel
theorem d_law_277 : decode code 277 = .ok (.iconst 1, 1) := by decide +kernel
theorem d_law_278 : decode code 278 = .ok (.iadd, 1) := by decide +kernel
theorem d_law_279 : decode code 279 = .ok (.iaload, 1) := by decide +kernel
theorem d_law_280 : decode code 280 = .ok (.aload_n 3, 1) := by decide +kernel
theorem d_law_281 : decode code 281 = .ok (.invokestatic 80, 3) := by decide +kernel
theorem d_law_284 : decode code 284 = .ok (.istore 5, 2) := by decide +kernel
theorem d_law_286 : decode code 286 = .ok (.aload_n 2, 1) := by decide +kernel
theorem d_law_287 : decode code 287 = .ok (.aload_n 0, 1) := by decide +kernel
theorem d_law_288 : decode code 288 = .ok (.iload 4, 2) := by decide +kernel
theorem d_law_290 : decode code 290 = .ok (.iconst 1, 1) := by decide +kernel
theorem d_law_291 : decode code 291 = .ok (.iadd, 1) := by decide +kernel
theorem d_law_292 : decode code 292 = .ok (.iaload, 1) := by decide +kernel
theorem d_law_293 : decode code 293 = .ok (.invokevirtual 82, 3) := by decide +kernel
theorem d_law_296 : decode code 296 = .ok (.istore 6, 2) := by decide +kernel
theorem d_law_298 : decode code 298 = .ok (.aload_n 2, 1) := by decide +kernel
theorem d_law_299 : decode code 299 = .ok (.invokevirtual 68, 3) := by decide +kernel
theorem d_law_302 : decode code 302 = .ok (.iload 5, 2) := by decide +kernel
theorem d_law_304 : decode code 304 = .ok (.if_icmp .eq 5, 3) := by decide +kernel
theorem d_law_307 : decode code 307 = .ok (.iconst 0, 1) := by decide +kernel
theorem d_law_308 : decode code 308 = .ok (.ireturn, 1) := by decide +kernel
theorem d_law_309 : decode code 309 = .ok (.iload 5, 2) := by decide +kernel
theorem d_law_311 : decode code 311 = .ok (.ifCond .ne 22, 3) := by decide +kernel
theorem d_law_314 : decode code 314 = .ok (.aload_n 3, 1) := by decide +kernel
theorem d_law_315 : decode code 315 = .ok (.iconst 0, 1) := by decide +kernel
theorem d_law_316 : decode code 316 = .ok (.laload, 1) := by decide +kernel
theorem d_law_317 : decode code 317 = .ok (.iload 6, 2) := by decide +kernel
theorem d_law_319 : decode code 319 = .ok (.ifCond .eq 7, 3) := by decide +kernel
theorem d_law_322 : decode code 322 = .ok (.lconst 1, 1) := by decide +kernel
theorem d_law_323 : decode code 323 = .ok (.goto 4, 3) := by decide +kernel
theorem d_law_326 : decode code 326 = .ok (.lconst 0, 1) := by decide +kernel
theorem d_law_327 : decode code 327 = .ok (.lcmp, 1) := by decide +kernel
theorem d_law_328 : decode code 328 = .ok (.ifCond .eq 5, 3) := by decide +kernel
theorem d_law_331 : decode code 331 = .ok (.iconst 0, 1) := by decide +kernel
theorem d_law_332 : decode code 332 = .ok (.ireturn, 1) := by decide +kernel
theorem d_law_333 : decode code 333 = .ok (.goto 561, 3) := by decide +kernel
theorem d_law_336 : decode code 336 = .ok (.aload_n 1, 1) := by decide +kernel
theorem d_law_337 : decode code 337 = .ok (.aload_n 0, 1) := by decide +kernel
theorem d_law_338 : decode code 338 = .ok (.iload 4, 2) := by decide +kernel
theorem d_law_340 : decode code 340 = .ok (.iconst 1, 1) := by decide +kernel
theorem d_law_341 : decode code 341 = .ok (.iadd, 1) := by decide +kernel
theorem d_law_342 : decode code 342 = .ok (.iaload, 1) := by decide +kernel
theorem d_law_343 : decode code 343 = .ok (.aload_n 0, 1) := by decide +kernel
theorem d_law_344 : decode code 344 = .ok (.iload 4, 2) := by decide +kernel
theorem d_law_346 : decode code 346 = .ok (.iconst 2, 1) := by decide +kernel
theorem d_law_347 : decode code 347 = .ok (.iadd, 1) := by decide +kernel
theorem d_law_348 : decode code 348 = .ok (.iaload, 1) := by decide +kernel
theorem d_law_349 : decode code 349 = .ok (.aload_n 3, 1) := by decide +kernel
theorem d_law_350 : decode code 350 = .ok (.invokestatic 83, 3) := by decide +kernel
theorem d_law_353 : decode code 353 = .ok (.istore 5, 2) := by decide +kernel
theorem d_law_355 : decode code 355 = .ok (.aload_n 2, 1) := by decide +kernel
theorem d_law_356 : decode code 356 = .ok (.aload_n 0, 1) := by decide +kernel
theorem d_law_357 : decode code 357 = .ok (.iload 4, 2) := by decide +kernel
theorem d_law_359 : decode code 359 = .ok (.iconst 1, 1) := by decide +kernel
theorem d_law_360 : decode code 360 = .ok (.iadd, 1) := by decide +kernel
theorem d_law_361 : decode code 361 = .ok (.iaload, 1) := by decide +kernel
theorem d_law_362 : decode code 362 = .ok (.aload_n 0, 1) := by decide +kernel
theorem d_law_363 : decode code 363 = .ok (.iload 4, 2) := by decide +kernel
theorem d_law_365 : decode code 365 = .ok (.iconst 2, 1) := by decide +kernel
theorem d_law_366 : decode code 366 = .ok (.iadd, 1) := by decide +kernel
theorem d_law_367 : decode code 367 = .ok (.iaload, 1) := by decide +kernel
theorem d_law_368 : decode code 368 = .ok (.invokevirtual 86, 3) := by decide +kernel
theorem d_law_371 : decode code 371 = .ok (.istore 6, 2) := by decide +kernel
theorem d_law_373 : decode code 373 = .ok (.aload_n 2, 1) := by decide +kernel
theorem d_law_374 : decode code 374 = .ok (.invokevirtual 68, 3) := by decide +kernel
theorem d_law_377 : decode code 377 = .ok (.iload 5, 2) := by decide +kernel
theorem d_law_379 : decode code 379 = .ok (.if_icmp .eq 5, 3) := by decide +kernel
theorem d_law_382 : decode code 382 = .ok (.iconst 0, 1) := by decide +kernel
theorem d_law_383 : decode code 383 = .ok (.ireturn, 1) := by decide +kernel
theorem d_law_384 : decode code 384 = .ok (.iload 5, 2) := by decide +kernel
theorem d_law_386 : decode code 386 = .ok (.ifCond .ne 15, 3) := by decide +kernel
theorem d_law_389 : decode code 389 = .ok (.aload_n 3, 1) := by decide +kernel
theorem d_law_390 : decode code 390 = .ok (.iconst 0, 1) := by decide +kernel
theorem d_law_391 : decode code 391 = .ok (.laload, 1) := by decide +kernel
theorem d_law_392 : decode code 392 = .ok (.iload 6, 2) := by decide +kernel
theorem d_law_394 : decode code 394 = .ok (.i2l, 1) := by decide +kernel
theorem d_law_395 : decode code 395 = .ok (.lcmp, 1) := by decide +kernel
theorem d_law_396 : decode code 396 = .ok (.ifCond .eq 5, 3) := by decide +kernel
theorem d_law_399 : decode code 399 = .ok (.iconst 0, 1) := by decide +kernel
theorem d_law_400 : decode code 400 = .ok (.ireturn, 1) := by decide +kernel
theorem d_law_401 : decode code 401 = .ok (.goto 493, 3) := by decide +kernel
theorem d_law_404 : decode code 404 = .ok (.aload_n 1, 1) := by decide +kernel
theorem d_law_405 : decode code 405 = .ok (.aload_n 0, 1) := by decide +kernel
theorem d_law_406 : decode code 406 = .ok (.iload 4, 2) := by decide +kernel
theorem d_law_408 : decode code 408 = .ok (.iconst 1, 1) := by decide +kernel
theorem d_law_409 : decode code 409 = .ok (.iadd, 1) := by decide +kernel
theorem d_law_410 : decode code 410 = .ok (.iaload, 1) := by decide +kernel
theorem d_law_411 : decode code 411 = .ok (.aload_n 0, 1) := by decide +kernel
theorem d_law_412 : decode code 412 = .ok (.iload 4, 2) := by decide +kernel
theorem d_law_414 : decode code 414 = .ok (.iconst 2, 1) := by decide +kernel
theorem d_law_415 : decode code 415 = .ok (.iadd, 1) := by decide +kernel
theorem d_law_416 : decode code 416 = .ok (.iaload, 1) := by decide +kernel
theorem d_law_417 : decode code 417 = .ok (.aload_n 3, 1) := by decide +kernel
theorem d_law_418 : decode code 418 = .ok (.invokestatic 87, 3) := by decide +kernel
theorem d_law_421 : decode code 421 = .ok (.istore 5, 2) := by decide +kernel
theorem d_law_423 : decode code 423 = .ok (.aload_n 2, 1) := by decide +kernel
theorem d_law_424 : decode code 424 = .ok (.aload_n 0, 1) := by decide +kernel
theorem d_law_425 : decode code 425 = .ok (.iload 4, 2) := by decide +kernel
theorem d_law_427 : decode code 427 = .ok (.iconst 1, 1) := by decide +kernel
theorem d_law_428 : decode code 428 = .ok (.iadd, 1) := by decide +kernel
theorem d_law_429 : decode code 429 = .ok (.iaload, 1) := by decide +kernel
theorem d_law_430 : decode code 430 = .ok (.aload_n 0, 1) := by decide +kernel
theorem d_law_431 : decode code 431 = .ok (.iload 4, 2) := by decide +kernel
theorem d_law_433 : decode code 433 = .ok (.iconst 2, 1) := by decide +kernel
theorem d_law_434 : decode code 434 = .ok (.iadd, 1) := by decide +kernel
theorem d_law_435 : decode code 435 = .ok (.iaload, 1) := by decide +kernel
theorem d_law_436 : decode code 436 = .ok (.invokevirtual 89, 3) := by decide +kernel
theorem d_law_439 : decode code 439 = .ok (.istore 6, 2) := by decide +kernel
theorem d_law_441 : decode code 441 = .ok (.aload_n 2, 1) := by decide +kernel
theorem d_law_442 : decode code 442 = .ok (.invokevirtual 68, 3) := by decide +kernel
theorem d_law_445 : decode code 445 = .ok (.iload 5, 2) := by decide +kernel
theorem d_law_447 : decode code 447 = .ok (.if_icmp .eq 5, 3) := by decide +kernel
theorem d_law_450 : decode code 450 = .ok (.iconst 0, 1) := by decide +kernel
theorem d_law_451 : decode code 451 = .ok (.ireturn, 1) := by decide +kernel
theorem d_law_452 : decode code 452 = .ok (.iload 5, 2) := by decide +kernel
theorem d_law_454 : decode code 454 = .ok (.ifCond .ne 22, 3) := by decide +kernel
theorem d_law_457 : decode code 457 = .ok (.aload_n 3, 1) := by decide +kernel
theorem d_law_458 : decode code 458 = .ok (.iconst 0, 1) := by decide +kernel
theorem d_law_459 : decode code 459 = .ok (.laload, 1) := by decide +kernel
theorem d_law_460 : decode code 460 = .ok (.iload 6, 2) := by decide +kernel
theorem d_law_462 : decode code 462 = .ok (.ifCond .eq 7, 3) := by decide +kernel
theorem d_law_465 : decode code 465 = .ok (.lconst 1, 1) := by decide +kernel
theorem d_law_466 : decode code 466 = .ok (.goto 4, 3) := by decide +kernel
theorem d_law_469 : decode code 469 = .ok (.lconst 0, 1) := by decide +kernel
theorem d_law_470 : decode code 470 = .ok (.lcmp, 1) := by decide +kernel
theorem d_law_471 : decode code 471 = .ok (.ifCond .eq 5, 3) := by decide +kernel
theorem d_law_474 : decode code 474 = .ok (.iconst 0, 1) := by decide +kernel
theorem d_law_475 : decode code 475 = .ok (.ireturn, 1) := by decide +kernel
theorem d_law_476 : decode code 476 = .ok (.goto 418, 3) := by decide +kernel
theorem d_law_479 : decode code 479 = .ok (.aload_n 1, 1) := by decide +kernel
theorem d_law_480 : decode code 480 = .ok (.aload_n 0, 1) := by decide +kernel
theorem d_law_481 : decode code 481 = .ok (.iload 4, 2) := by decide +kernel
theorem d_law_483 : decode code 483 = .ok (.iconst 1, 1) := by decide +kernel
theorem d_law_484 : decode code 484 = .ok (.iadd, 1) := by decide +kernel
theorem d_law_485 : decode code 485 = .ok (.iaload, 1) := by decide +kernel
theorem d_law_486 : decode code 486 = .ok (.aload_n 3, 1) := by decide +kernel
theorem d_law_487 : decode code 487 = .ok (.invokestatic 90, 3) := by decide +kernel
theorem d_law_490 : decode code 490 = .ok (.istore 5, 2) := by decide +kernel
theorem d_law_492 : decode code 492 = .ok (.aload_n 2, 1) := by decide +kernel
theorem d_law_493 : decode code 493 = .ok (.aload_n 0, 1) := by decide +kernel
theorem d_law_494 : decode code 494 = .ok (.iload 4, 2) := by decide +kernel
theorem d_law_496 : decode code 496 = .ok (.iconst 1, 1) := by decide +kernel
theorem d_law_497 : decode code 497 = .ok (.iadd, 1) := by decide +kernel
theorem d_law_498 : decode code 498 = .ok (.iaload, 1) := by decide +kernel
theorem d_law_499 : decode code 499 = .ok (.invokevirtual 92, 3) := by decide +kernel
theorem d_law_502 : decode code 502 = .ok (.istore 6, 2) := by decide +kernel
theorem d_law_504 : decode code 504 = .ok (.aload_n 2, 1) := by decide +kernel
theorem d_law_505 : decode code 505 = .ok (.invokevirtual 68, 3) := by decide +kernel
theorem d_law_508 : decode code 508 = .ok (.iload 5, 2) := by decide +kernel
theorem d_law_510 : decode code 510 = .ok (.if_icmp .eq 5, 3) := by decide +kernel
theorem d_law_513 : decode code 513 = .ok (.iconst 0, 1) := by decide +kernel
theorem d_law_514 : decode code 514 = .ok (.ireturn, 1) := by decide +kernel
theorem d_law_515 : decode code 515 = .ok (.iload 5, 2) := by decide +kernel
theorem d_law_517 : decode code 517 = .ok (.ifCond .ne 15, 3) := by decide +kernel
theorem d_law_520 : decode code 520 = .ok (.aload_n 3, 1) := by decide +kernel
theorem d_law_521 : decode code 521 = .ok (.iconst 0, 1) := by decide +kernel
theorem d_law_522 : decode code 522 = .ok (.laload, 1) := by decide +kernel
theorem d_law_523 : decode code 523 = .ok (.iload 6, 2) := by decide +kernel
theorem d_law_525 : decode code 525 = .ok (.i2l, 1) := by decide +kernel
theorem d_law_526 : decode code 526 = .ok (.lcmp, 1) := by decide +kernel
theorem d_law_527 : decode code 527 = .ok (.ifCond .eq 5, 3) := by decide +kernel
theorem d_law_530 : decode code 530 = .ok (.iconst 0, 1) := by decide +kernel
theorem d_law_531 : decode code 531 = .ok (.ireturn, 1) := by decide +kernel
theorem d_law_532 : decode code 532 = .ok (.goto 362, 3) := by decide +kernel
theorem d_law_535 : decode code 535 = .ok (.aload_n 1, 1) := by decide +kernel
theorem d_law_536 : decode code 536 = .ok (.aload_n 0, 1) := by decide +kernel
theorem d_law_537 : decode code 537 = .ok (.iload 4, 2) := by decide +kernel
theorem d_law_539 : decode code 539 = .ok (.iconst 1, 1) := by decide +kernel
theorem d_law_540 : decode code 540 = .ok (.iadd, 1) := by decide +kernel
theorem d_law_541 : decode code 541 = .ok (.iaload, 1) := by decide +kernel
theorem d_law_542 : decode code 542 = .ok (.aload_n 0, 1) := by decide +kernel
theorem d_law_543 : decode code 543 = .ok (.iload 4, 2) := by decide +kernel
theorem d_law_545 : decode code 545 = .ok (.iconst 2, 1) := by decide +kernel
theorem d_law_546 : decode code 546 = .ok (.iadd, 1) := by decide +kernel
theorem d_law_547 : decode code 547 = .ok (.iaload, 1) := by decide +kernel
theorem d_law_548 : decode code 548 = .ok (.aload_n 3, 1) := by decide +kernel
theorem d_law_549 : decode code 549 = .ok (.invokestatic 93, 3) := by decide +kernel
theorem d_law_552 : decode code 552 = .ok (.istore 5, 2) := by decide +kernel
theorem d_law_554 : decode code 554 = .ok (.aload_n 2, 1) := by decide +kernel
theorem d_law_555 : decode code 555 = .ok (.aload_n 0, 1) := by decide +kernel
theorem d_law_556 : decode code 556 = .ok (.iload 4, 2) := by decide +kernel
theorem d_law_558 : decode code 558 = .ok (.iconst 1, 1) := by decide +kernel
theorem d_law_559 : decode code 559 = .ok (.iadd, 1) := by decide +kernel
theorem d_law_560 : decode code 560 = .ok (.iaload, 1) := by decide +kernel
theorem d_law_561 : decode code 561 = .ok (.aload_n 0, 1) := by decide +kernel
theorem d_law_562 : decode code 562 = .ok (.iload 4, 2) := by decide +kernel
theorem d_law_564 : decode code 564 = .ok (.iconst 2, 1) := by decide +kernel
theorem d_law_565 : decode code 565 = .ok (.iadd, 1) := by decide +kernel
theorem d_law_566 : decode code 566 = .ok (.iaload, 1) := by decide +kernel
theorem d_law_567 : decode code 567 = .ok (.invokevirtual 95, 3) := by decide +kernel
theorem d_law_570 : decode code 570 = .ok (.lstore 6, 2) := by decide +kernel
theorem d_law_572 : decode code 572 = .ok (.aload_n 2, 1) := by decide +kernel
theorem d_law_573 : decode code 573 = .ok (.invokevirtual 68, 3) := by decide +kernel
theorem d_law_576 : decode code 576 = .ok (.iload 5, 2) := by decide +kernel
theorem d_law_578 : decode code 578 = .ok (.if_icmp .eq 5, 3) := by decide +kernel
theorem d_law_581 : decode code 581 = .ok (.iconst 0, 1) := by decide +kernel
theorem d_law_582 : decode code 582 = .ok (.ireturn, 1) := by decide +kernel
theorem d_law_583 : decode code 583 = .ok (.iload 5, 2) := by decide +kernel
theorem d_law_585 : decode code 585 = .ok (.ifCond .ne 14, 3) := by decide +kernel
theorem d_law_588 : decode code 588 = .ok (.aload_n 3, 1) := by decide +kernel
theorem d_law_589 : decode code 589 = .ok (.iconst 0, 1) := by decide +kernel
theorem d_law_590 : decode code 590 = .ok (.laload, 1) := by decide +kernel
theorem d_law_591 : decode code 591 = .ok (.lload 6, 2) := by decide +kernel
theorem d_law_593 : decode code 593 = .ok (.lcmp, 1) := by decide +kernel
theorem d_law_594 : decode code 594 = .ok (.ifCond .eq 5, 3) := by decide +kernel
theorem d_law_597 : decode code 597 = .ok (.iconst 0, 1) := by decide +kernel
theorem d_law_598 : decode code 598 = .ok (.ireturn, 1) := by decide +kernel
theorem d_law_599 : decode code 599 = .ok (.goto 295, 3) := by decide +kernel
theorem d_law_602 : decode code 602 = .ok (.aload_n 1, 1) := by decide +kernel
theorem d_law_603 : decode code 603 = .ok (.aload_n 0, 1) := by decide +kernel
theorem d_law_604 : decode code 604 = .ok (.iload 4, 2) := by decide +kernel
theorem d_law_606 : decode code 606 = .ok (.iconst 1, 1) := by decide +kernel
theorem d_law_607 : decode code 607 = .ok (.iadd, 1) := by decide +kernel
theorem d_law_608 : decode code 608 = .ok (.iaload, 1) := by decide +kernel
theorem d_law_609 : decode code 609 = .ok (.aload_n 0, 1) := by decide +kernel
theorem d_law_610 : decode code 610 = .ok (.iload 4, 2) := by decide +kernel
theorem d_law_612 : decode code 612 = .ok (.iconst 2, 1) := by decide +kernel
theorem d_law_613 : decode code 613 = .ok (.iadd, 1) := by decide +kernel
theorem d_law_614 : decode code 614 = .ok (.iaload, 1) := by decide +kernel
theorem d_law_615 : decode code 615 = .ok (.aload_n 0, 1) := by decide +kernel
theorem d_law_616 : decode code 616 = .ok (.iload 4, 2) := by decide +kernel
theorem d_law_618 : decode code 618 = .ok (.iconst 3, 1) := by decide +kernel
theorem d_law_619 : decode code 619 = .ok (.iadd, 1) := by decide +kernel
theorem d_law_620 : decode code 620 = .ok (.iaload, 1) := by decide +kernel
theorem d_law_621 : decode code 621 = .ok (.i2l, 1) := by decide +kernel
theorem d_law_622 : decode code 622 = .ok (.bipush 32, 2) := by decide +kernel
theorem d_law_624 : decode code 624 = .ok (.lshl, 1) := by decide +kernel
theorem d_law_625 : decode code 625 = .ok (.aload_n 0, 1) := by decide +kernel
theorem d_law_626 : decode code 626 = .ok (.iload 4, 2) := by decide +kernel
theorem d_law_628 : decode code 628 = .ok (.iconst 4, 1) := by decide +kernel
theorem d_law_629 : decode code 629 = .ok (.iadd, 1) := by decide +kernel
theorem d_law_630 : decode code 630 = .ok (.iaload, 1) := by decide +kernel
theorem d_law_631 : decode code 631 = .ok (.i2l, 1) := by decide +kernel
theorem d_law_632 : decode code 632 = .ok (.ldc2_w 60, 3) := by decide +kernel
theorem d_law_635 : decode code 635 = .ok (.land, 1) := by decide +kernel
theorem d_law_636 : decode code 636 = .ok (.lor, 1) := by decide +kernel
theorem d_law_637 : decode code 637 = .ok (.aload_n 3, 1) := by decide +kernel
theorem d_law_638 : decode code 638 = .ok (.invokestatic 96, 3) := by decide +kernel
theorem d_law_641 : decode code 641 = .ok (.istore 5, 2) := by decide +kernel
theorem d_law_643 : decode code 643 = .ok (.aload_n 2, 1) := by decide +kernel
theorem d_law_644 : decode code 644 = .ok (.aload_n 0, 1) := by decide +kernel
theorem d_law_645 : decode code 645 = .ok (.iload 4, 2) := by decide +kernel
theorem d_law_647 : decode code 647 = .ok (.iconst 1, 1) := by decide +kernel
theorem d_law_648 : decode code 648 = .ok (.iadd, 1) := by decide +kernel
theorem d_law_649 : decode code 649 = .ok (.iaload, 1) := by decide +kernel
theorem d_law_650 : decode code 650 = .ok (.aload_n 0, 1) := by decide +kernel
theorem d_law_651 : decode code 651 = .ok (.iload 4, 2) := by decide +kernel
theorem d_law_653 : decode code 653 = .ok (.iconst 2, 1) := by decide +kernel
theorem d_law_654 : decode code 654 = .ok (.iadd, 1) := by decide +kernel
theorem d_law_655 : decode code 655 = .ok (.iaload, 1) := by decide +kernel
theorem d_law_656 : decode code 656 = .ok (.aload_n 0, 1) := by decide +kernel
theorem d_law_657 : decode code 657 = .ok (.iload 4, 2) := by decide +kernel
theorem d_law_659 : decode code 659 = .ok (.iconst 3, 1) := by decide +kernel
theorem d_law_660 : decode code 660 = .ok (.iadd, 1) := by decide +kernel
theorem d_law_661 : decode code 661 = .ok (.iaload, 1) := by decide +kernel
theorem d_law_662 : decode code 662 = .ok (.i2l, 1) := by decide +kernel
theorem d_law_663 : decode code 663 = .ok (.bipush 32, 2) := by decide +kernel
theorem d_law_665 : decode code 665 = .ok (.lshl, 1) := by decide +kernel
theorem d_law_666 : decode code 666 = .ok (.aload_n 0, 1) := by decide +kernel
theorem d_law_667 : decode code 667 = .ok (.iload 4, 2) := by decide +kernel
theorem d_law_669 : decode code 669 = .ok (.iconst 4, 1) := by decide +kernel
theorem d_law_670 : decode code 670 = .ok (.iadd, 1) := by decide +kernel
theorem d_law_671 : decode code 671 = .ok (.iaload, 1) := by decide +kernel
theorem d_law_672 : decode code 672 = .ok (.i2l, 1) := by decide +kernel
theorem d_law_673 : decode code 673 = .ok (.ldc2_w 60, 3) := by decide +kernel
theorem d_law_676 : decode code 676 = .ok (.land, 1) := by decide +kernel
theorem d_law_677 : decode code 677 = .ok (.lor, 1) := by decide +kernel
theorem d_law_678 : decode code 678 = .ok (.invokevirtual 99, 3) := by decide +kernel
theorem d_law_681 : decode code 681 = .ok (.istore 6, 2) := by decide +kernel
theorem d_law_683 : decode code 683 = .ok (.aload_n 2, 1) := by decide +kernel
theorem d_law_684 : decode code 684 = .ok (.invokevirtual 68, 3) := by decide +kernel
theorem d_law_687 : decode code 687 = .ok (.iload 5, 2) := by decide +kernel
theorem d_law_689 : decode code 689 = .ok (.if_icmp .eq 5, 3) := by decide +kernel
theorem d_law_692 : decode code 692 = .ok (.iconst 0, 1) := by decide +kernel
theorem d_law_693 : decode code 693 = .ok (.ireturn, 1) := by decide +kernel
theorem d_law_694 : decode code 694 = .ok (.iload 5, 2) := by decide +kernel
theorem d_law_696 : decode code 696 = .ok (.ifCond .ne 22, 3) := by decide +kernel
theorem d_law_699 : decode code 699 = .ok (.aload_n 3, 1) := by decide +kernel
theorem d_law_700 : decode code 700 = .ok (.iconst 0, 1) := by decide +kernel
theorem d_law_701 : decode code 701 = .ok (.laload, 1) := by decide +kernel
theorem d_law_702 : decode code 702 = .ok (.iload 6, 2) := by decide +kernel
theorem d_law_704 : decode code 704 = .ok (.ifCond .eq 7, 3) := by decide +kernel
theorem d_law_707 : decode code 707 = .ok (.lconst 1, 1) := by decide +kernel
theorem d_law_708 : decode code 708 = .ok (.goto 4, 3) := by decide +kernel
theorem d_law_711 : decode code 711 = .ok (.lconst 0, 1) := by decide +kernel
theorem d_law_712 : decode code 712 = .ok (.lcmp, 1) := by decide +kernel
theorem d_law_713 : decode code 713 = .ok (.ifCond .eq 5, 3) := by decide +kernel
theorem d_law_716 : decode code 716 = .ok (.iconst 0, 1) := by decide +kernel
theorem d_law_717 : decode code 717 = .ok (.ireturn, 1) := by decide +kernel
theorem d_law_718 : decode code 718 = .ok (.goto 176, 3) := by decide +kernel
theorem d_law_721 : decode code 721 = .ok (.aload_n 1, 1) := by decide +kernel
theorem d_law_722 : decode code 722 = .ok (.aload_n 0, 1) := by decide +kernel
theorem d_law_723 : decode code 723 = .ok (.iload 4, 2) := by decide +kernel
theorem d_law_725 : decode code 725 = .ok (.iconst 1, 1) := by decide +kernel
theorem d_law_726 : decode code 726 = .ok (.iadd, 1) := by decide +kernel
theorem d_law_727 : decode code 727 = .ok (.iaload, 1) := by decide +kernel
theorem d_law_728 : decode code 728 = .ok (.aload_n 3, 1) := by decide +kernel
theorem d_law_729 : decode code 729 = .ok (.invokestatic 100, 3) := by decide +kernel
theorem d_law_732 : decode code 732 = .ok (.istore 5, 2) := by decide +kernel
theorem d_law_734 : decode code 734 = .ok (.aload_n 2, 1) := by decide +kernel
theorem d_law_735 : decode code 735 = .ok (.aload_n 0, 1) := by decide +kernel
theorem d_law_736 : decode code 736 = .ok (.iload 4, 2) := by decide +kernel
theorem d_law_738 : decode code 738 = .ok (.iconst 1, 1) := by decide +kernel
theorem d_law_739 : decode code 739 = .ok (.iadd, 1) := by decide +kernel
theorem d_law_740 : decode code 740 = .ok (.iaload, 1) := by decide +kernel
theorem d_law_741 : decode code 741 = .ok (.invokevirtual 102, 3) := by decide +kernel
theorem d_law_744 : decode code 744 = .ok (.istore 6, 2) := by decide +kernel
theorem d_law_746 : decode code 746 = .ok (.aload_n 2, 1) := by decide +kernel
theorem d_law_747 : decode code 747 = .ok (.invokevirtual 68, 3) := by decide +kernel
theorem d_law_750 : decode code 750 = .ok (.iload 5, 2) := by decide +kernel
theorem d_law_752 : decode code 752 = .ok (.if_icmp .eq 5, 3) := by decide +kernel
theorem d_law_755 : decode code 755 = .ok (.iconst 0, 1) := by decide +kernel
theorem d_law_756 : decode code 756 = .ok (.ireturn, 1) := by decide +kernel
theorem d_law_757 : decode code 757 = .ok (.iload 5, 2) := by decide +kernel
theorem d_law_759 : decode code 759 = .ok (.ifCond .ne 15, 3) := by decide +kernel
theorem d_law_762 : decode code 762 = .ok (.aload_n 3, 1) := by decide +kernel
theorem d_law_763 : decode code 763 = .ok (.iconst 0, 1) := by decide +kernel
theorem d_law_764 : decode code 764 = .ok (.laload, 1) := by decide +kernel
theorem d_law_765 : decode code 765 = .ok (.iload 6, 2) := by decide +kernel
theorem d_law_767 : decode code 767 = .ok (.i2l, 1) := by decide +kernel
theorem d_law_768 : decode code 768 = .ok (.lcmp, 1) := by decide +kernel
theorem d_law_769 : decode code 769 = .ok (.ifCond .eq 5, 3) := by decide +kernel
theorem d_law_772 : decode code 772 = .ok (.iconst 0, 1) := by decide +kernel
theorem d_law_773 : decode code 773 = .ok (.ireturn, 1) := by decide +kernel
theorem d_law_774 : decode code 774 = .ok (.goto 120, 3) := by decide +kernel
theorem d_law_777 : decode code 777 = .ok (.aload_n 1, 1) := by decide +kernel
theorem d_law_778 : decode code 778 = .ok (.aload_n 0, 1) := by decide +kernel
theorem d_law_779 : decode code 779 = .ok (.iload 4, 2) := by decide +kernel
theorem d_law_781 : decode code 781 = .ok (.iconst 1, 1) := by decide +kernel
theorem d_law_782 : decode code 782 = .ok (.iadd, 1) := by decide +kernel
theorem d_law_783 : decode code 783 = .ok (.iaload, 1) := by decide +kernel
theorem d_law_784 : decode code 784 = .ok (.aload_n 0, 1) := by decide +kernel
theorem d_law_785 : decode code 785 = .ok (.iload 4, 2) := by decide +kernel
theorem d_law_787 : decode code 787 = .ok (.iconst 2, 1) := by decide +kernel
theorem d_law_788 : decode code 788 = .ok (.iadd, 1) := by decide +kernel
theorem d_law_789 : decode code 789 = .ok (.iaload, 1) := by decide +kernel
theorem d_law_790 : decode code 790 = .ok (.invokestatic 103, 3) := by decide +kernel
theorem d_law_793 : decode code 793 = .ok (.istore 5, 2) := by decide +kernel
theorem d_law_795 : decode code 795 = .ok (.aload_n 2, 1) := by decide +kernel
theorem d_law_796 : decode code 796 = .ok (.aload_n 0, 1) := by decide +kernel
theorem d_law_797 : decode code 797 = .ok (.iload 4, 2) := by decide +kernel
theorem d_law_799 : decode code 799 = .ok (.iconst 1, 1) := by decide +kernel
theorem d_law_800 : decode code 800 = .ok (.iadd, 1) := by decide +kernel
theorem d_law_801 : decode code 801 = .ok (.iaload, 1) := by decide +kernel
theorem d_law_802 : decode code 802 = .ok (.aload_n 0, 1) := by decide +kernel
theorem d_law_803 : decode code 803 = .ok (.iload 4, 2) := by decide +kernel
theorem d_law_805 : decode code 805 = .ok (.iconst 2, 1) := by decide +kernel
theorem d_law_806 : decode code 806 = .ok (.iadd, 1) := by decide +kernel
theorem d_law_807 : decode code 807 = .ok (.iaload, 1) := by decide +kernel
theorem d_law_808 : decode code 808 = .ok (.invokevirtual 106, 3) := by decide +kernel
theorem d_law_811 : decode code 811 = .ok (.aload_n 2, 1) := by decide +kernel
theorem d_law_812 : decode code 812 = .ok (.invokevirtual 68, 3) := by decide +kernel
theorem d_law_815 : decode code 815 = .ok (.iload 5, 2) := by decide +kernel
theorem d_law_817 : decode code 817 = .ok (.if_icmp .eq 5, 3) := by decide +kernel
theorem d_law_820 : decode code 820 = .ok (.iconst 0, 1) := by decide +kernel
theorem d_law_821 : decode code 821 = .ok (.ireturn, 1) := by decide +kernel
theorem d_law_822 : decode code 822 = .ok (.goto 72, 3) := by decide +kernel
theorem d_law_825 : decode code 825 = .ok (.aload_n 1, 1) := by decide +kernel
theorem d_law_826 : decode code 826 = .ok (.invokevirtual 107, 3) := by decide +kernel
theorem d_law_829 : decode code 829 = .ok (.aload_n 2, 1) := by decide +kernel
theorem d_law_830 : decode code 830 = .ok (.invokevirtual 110, 3) := by decide +kernel
theorem d_law_833 : decode code 833 = .ok (.if_icmp .eq 61, 3) := by decide +kernel
theorem d_law_836 : decode code 836 = .ok (.iconst 0, 1) := by decide +kernel
theorem d_law_837 : decode code 837 = .ok (.ireturn, 1) := by decide +kernel
theorem d_law_838 : decode code 838 = .ok (.aload_n 1, 1) := by decide +kernel
theorem d_law_839 : decode code 839 = .ok (.aload_n 0, 1) := by decide +kernel
theorem d_law_840 : decode code 840 = .ok (.iload 4, 2) := by decide +kernel
theorem d_law_842 : decode code 842 = .ok (.iconst 1, 1) := by decide +kernel
theorem d_law_843 : decode code 843 = .ok (.iadd, 1) := by decide +kernel
theorem d_law_844 : decode code 844 = .ok (.iaload, 1) := by decide +kernel
theorem d_law_845 : decode code 845 = .ok (.aload_n 3, 1) := by decide +kernel
theorem d_law_846 : decode code 846 = .ok (.invokestatic 111, 3) := by decide +kernel
theorem d_law_849 : decode code 849 = .ok (.istore 5, 2) := by decide +kernel
theorem d_law_851 : decode code 851 = .ok (.aload_n 2, 1) := by decide +kernel
theorem d_law_852 : decode code 852 = .ok (.aload_n 0, 1) := by decide +kernel
theorem d_law_853 : decode code 853 = .ok (.iload 4, 2) := by decide +kernel
theorem d_law_855 : decode code 855 = .ok (.iconst 1, 1) := by decide +kernel
theorem d_law_856 : decode code 856 = .ok (.iadd, 1) := by decide +kernel
theorem d_law_857 : decode code 857 = .ok (.iaload, 1) := by decide +kernel
theorem d_law_858 : decode code 858 = .ok (.invokevirtual 113, 3) := by decide +kernel
theorem d_law_861 : decode code 861 = .ok (.istore 6, 2) := by decide +kernel
theorem d_law_863 : decode code 863 = .ok (.aload_n 2, 1) := by decide +kernel
theorem d_law_864 : decode code 864 = .ok (.invokevirtual 68, 3) := by decide +kernel
theorem d_law_867 : decode code 867 = .ok (.iload 5, 2) := by decide +kernel
theorem d_law_869 : decode code 869 = .ok (.if_icmp .eq 5, 3) := by decide +kernel
theorem d_law_872 : decode code 872 = .ok (.iconst 0, 1) := by decide +kernel
theorem d_law_873 : decode code 873 = .ok (.ireturn, 1) := by decide +kernel
theorem d_law_874 : decode code 874 = .ok (.iload 5, 2) := by decide +kernel
theorem d_law_876 : decode code 876 = .ok (.ifCond .ne 15, 3) := by decide +kernel
theorem d_law_879 : decode code 879 = .ok (.aload_n 3, 1) := by decide +kernel
theorem d_law_880 : decode code 880 = .ok (.iconst 0, 1) := by decide +kernel
theorem d_law_881 : decode code 881 = .ok (.laload, 1) := by decide +kernel
theorem d_law_882 : decode code 882 = .ok (.iload 6, 2) := by decide +kernel
theorem d_law_884 : decode code 884 = .ok (.i2l, 1) := by decide +kernel
theorem d_law_885 : decode code 885 = .ok (.lcmp, 1) := by decide +kernel
theorem d_law_886 : decode code 886 = .ok (.ifCond .eq 5, 3) := by decide +kernel
theorem d_law_889 : decode code 889 = .ok (.iconst 0, 1) := by decide +kernel
theorem d_law_890 : decode code 890 = .ok (.ireturn, 1) := by decide +kernel
theorem d_law_891 : decode code 891 = .ok (.goto 3, 3) := by decide +kernel
theorem d_law_894 : decode code 894 = .ok (.iinc 4 5, 3) := by decide +kernel
theorem d_law_897 : decode code 897 = .ok (.goto (-874), 3) := by decide +kernel
theorem d_law_900 : decode code 900 = .ok (.iconst 1, 1) := by decide +kernel
theorem d_law_901 : decode code 901 = .ok (.ireturn, 1) := by decide +kernel
