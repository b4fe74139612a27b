theorem dc_L_letters_0 : decode bc_L_letters 0 = .ok (.aload_n 2, 1) := by decide +kernel
theorem dc_L_letters_1 : decode bc_L_letters 1 = .ok (.iconst 0, 1) := by decide +kernel
theorem dc_L_letters_2 : decode bc_L_letters 2 = .ok (.aload_n 0, 1) := by decide +kernel
theorem dc_L_letters_3 : decode bc_L_letters 3 = .ok (.iload_n 1, 1) := by decide +kernel
theorem dc_L_letters_4 : decode bc_L_letters 4 = .ok (.invokevirtual 7, 3) := by decide +kernel
theorem dc_L_letters_7 : decode bc_L_letters 7 = .ok (.i2l, 1) := by decide +kernel
theorem dc_L_letters_8 : decode bc_L_letters 8 = .ok (.lastore, 1) := by decide +kernel
theorem dc_L_letters_9 : decode bc_L_letters 9 = .ok (.goto 9, 3) := by decide +kernel
theorem dc_L_letters_12 : decode bc_L_letters 12 = .ok (.astore_n 3, 1) := by decide +kernel
theorem dc_L_letters_13 : decode bc_L_letters 13 = .ok (.iconst 1, 1) := by decide +kernel
theorem dc_L_letters_14 : decode bc_L_letters 14 = .ok (.ireturn, 1) := by decide +kernel
theorem dc_L_letters_15 : decode bc_L_letters 15 = .ok (.astore_n 3, 1) := by decide +kernel
theorem dc_L_letters_16 : decode bc_L_letters 16 = .ok (.iconst 2, 1) := by decide +kernel
theorem dc_L_letters_17 : decode bc_L_letters 17 = .ok (.ireturn, 1) := by decide +kernel
theorem dc_L_letters_18 : decode bc_L_letters 18 = .ok (.iconst 0, 1) := by decide +kernel
theorem dc_L_letters_19 : decode bc_L_letters 19 = .ok (.ireturn, 1) := by decide +kernel
theorem dc_L_empty_0 : decode bc_L_empty 0 = .ok (.aload_n 1, 1) := by decide +kernel
theorem dc_L_empty_1 : decode bc_L_empty 1 = .ok (.iconst 0, 1) := by decide +kernel
theorem dc_L_empty_2 : decode bc_L_empty 2 = .ok (.aload_n 0, 1) := by decide +kernel
theorem dc_L_empty_3 : decode bc_L_empty 3 = .ok (.invokevirtual 17, 3) := by decide +kernel
theorem dc_L_empty_6 : decode bc_L_empty 6 = .ok (.i2l, 1) := by decide +kernel
theorem dc_L_empty_7 : decode bc_L_empty 7 = .ok (.lastore, 1) := by decide +kernel
theorem dc_L_empty_8 : decode bc_L_empty 8 = .ok (.goto 6, 3) := by decide +kernel
theorem dc_L_empty_11 : decode bc_L_empty 11 = .ok (.astore_n 2, 1) := by decide +kernel
theorem dc_L_empty_12 : decode bc_L_empty 12 = .ok (.iconst 1, 1) := by decide +kernel
theorem dc_L_empty_13 : decode bc_L_empty 13 = .ok (.ireturn, 1) := by decide +kernel
theorem dc_L_empty_14 : decode bc_L_empty 14 = .ok (.iconst 0, 1) := by decide +kernel
theorem dc_L_empty_15 : decode bc_L_empty 15 = .ok (.ireturn, 1) := by decide +kernel
theorem dc_L_then_0 : decode bc_L_then 0 = .ok (.aload_n 3, 1) := by decide +kernel
theorem dc_L_then_1 : decode bc_L_then 1 = .ok (.iconst 0, 1) := by decide +kernel
theorem dc_L_then_2 : decode bc_L_then 2 = .ok (.aload_n 0, 1) := by decide +kernel
theorem dc_L_then_3 : decode bc_L_then 3 = .ok (.iload_n 1, 1) := by decide +kernel
theorem dc_L_then_4 : decode bc_L_then 4 = .ok (.iload_n 2, 1) := by decide +kernel
theorem dc_L_then_5 : decode bc_L_then 5 = .ok (.invokevirtual 21, 3) := by decide +kernel
theorem dc_L_then_8 : decode bc_L_then 8 = .ok (.i2l, 1) := by decide +kernel
theorem dc_L_then_9 : decode bc_L_then 9 = .ok (.lastore, 1) := by decide +kernel
theorem dc_L_then_10 : decode bc_L_then 10 = .ok (.goto 11, 3) := by decide +kernel
theorem dc_L_then_13 : decode bc_L_then 13 = .ok (.astore 4, 2) := by decide +kernel
theorem dc_L_then_15 : decode bc_L_then 15 = .ok (.iconst 1, 1) := by decide +kernel
theorem dc_L_then_16 : decode bc_L_then 16 = .ok (.ireturn, 1) := by decide +kernel
theorem dc_L_then_17 : decode bc_L_then 17 = .ok (.astore 4, 2) := by decide +kernel
theorem dc_L_then_19 : decode bc_L_then 19 = .ok (.iconst 2, 1) := by decide +kernel
theorem dc_L_then_20 : decode bc_L_then 20 = .ok (.ireturn, 1) := by decide +kernel
theorem dc_L_then_21 : decode bc_L_then 21 = .ok (.iconst 0, 1) := by decide +kernel
theorem dc_L_then_22 : decode bc_L_then 22 = .ok (.ireturn, 1) := by decide +kernel
theorem dc_L_both_0 : decode bc_L_both 0 = .ok (.aload 4, 2) := by decide +kernel
theorem dc_L_both_2 : decode bc_L_both 2 = .ok (.iconst 0, 1) := by decide +kernel
theorem dc_L_both_3 : decode bc_L_both 3 = .ok (.aload_n 0, 1) := by decide +kernel
theorem dc_L_both_4 : decode bc_L_both 4 = .ok (.iload_n 1, 1) := by decide +kernel
theorem dc_L_both_5 : decode bc_L_both 5 = .ok (.iload_n 2, 1) := by decide +kernel
theorem dc_L_both_6 : decode bc_L_both 6 = .ok (.iload_n 3, 1) := by decide +kernel
theorem dc_L_both_7 : decode bc_L_both 7 = .ok (.invokevirtual 25, 3) := by decide +kernel
theorem dc_L_both_10 : decode bc_L_both 10 = .ok (.i2l, 1) := by decide +kernel
theorem dc_L_both_11 : decode bc_L_both 11 = .ok (.lastore, 1) := by decide +kernel
theorem dc_L_both_12 : decode bc_L_both 12 = .ok (.goto 11, 3) := by decide +kernel
theorem dc_L_both_15 : decode bc_L_both 15 = .ok (.astore 5, 2) := by decide +kernel
theorem dc_L_both_17 : decode bc_L_both 17 = .ok (.iconst 1, 1) := by decide +kernel
theorem dc_L_both_18 : decode bc_L_both 18 = .ok (.ireturn, 1) := by decide +kernel
theorem dc_L_both_19 : decode bc_L_both 19 = .ok (.astore 5, 2) := by decide +kernel
theorem dc_L_both_21 : decode bc_L_both 21 = .ok (.iconst 2, 1) := by decide +kernel
theorem dc_L_both_22 : decode bc_L_both 22 = .ok (.ireturn, 1) := by decide +kernel
theorem dc_L_both_23 : decode bc_L_both 23 = .ok (.iconst 0, 1) := by decide +kernel
theorem dc_L_both_24 : decode bc_L_both 24 = .ok (.ireturn, 1) := by decide +kernel
theorem dc_L_many_0 : decode bc_L_many 0 = .ok (.aload_n 2, 1) := by decide +kernel
theorem dc_L_many_1 : decode bc_L_many 1 = .ok (.iconst 0, 1) := by decide +kernel
theorem dc_L_many_2 : decode bc_L_many 2 = .ok (.aload_n 0, 1) := by decide +kernel
theorem dc_L_many_3 : decode bc_L_many 3 = .ok (.iload_n 1, 1) := by decide +kernel
theorem dc_L_many_4 : decode bc_L_many 4 = .ok (.invokevirtual 29, 3) := by decide +kernel
theorem dc_L_many_7 : decode bc_L_many 7 = .ok (.i2l, 1) := by decide +kernel
theorem dc_L_many_8 : decode bc_L_many 8 = .ok (.lastore, 1) := by decide +kernel
theorem dc_L_many_9 : decode bc_L_many 9 = .ok (.goto 9, 3) := by decide +kernel
theorem dc_L_many_12 : decode bc_L_many 12 = .ok (.astore_n 3, 1) := by decide +kernel
theorem dc_L_many_13 : decode bc_L_many 13 = .ok (.iconst 1, 1) := by decide +kernel
theorem dc_L_many_14 : decode bc_L_many 14 = .ok (.ireturn, 1) := by decide +kernel
theorem dc_L_many_15 : decode bc_L_many 15 = .ok (.astore_n 3, 1) := by decide +kernel
theorem dc_L_many_16 : decode bc_L_many 16 = .ok (.iconst 2, 1) := by decide +kernel
theorem dc_L_many_17 : decode bc_L_many 17 = .ok (.ireturn, 1) := by decide +kernel
theorem dc_L_many_18 : decode bc_L_many 18 = .ok (.iconst 0, 1) := by decide +kernel
theorem dc_L_many_19 : decode bc_L_many 19 = .ok (.ireturn, 1) := by decide +kernel
theorem dc_L_contrary_0 : decode bc_L_contrary 0 = .ok (.aload_n 2, 1) := by decide +kernel
theorem dc_L_contrary_1 : decode bc_L_contrary 1 = .ok (.iconst 0, 1) := by decide +kernel
theorem dc_L_contrary_2 : decode bc_L_contrary 2 = .ok (.aload_n 0, 1) := by decide +kernel
theorem dc_L_contrary_3 : decode bc_L_contrary 3 = .ok (.iload_n 1, 1) := by decide +kernel
theorem dc_L_contrary_4 : decode bc_L_contrary 4 = .ok (.invokevirtual 32, 3) := by decide +kernel
theorem dc_L_contrary_7 : decode bc_L_contrary 7 = .ok (.i2l, 1) := by decide +kernel
theorem dc_L_contrary_8 : decode bc_L_contrary 8 = .ok (.lastore, 1) := by decide +kernel
theorem dc_L_contrary_9 : decode bc_L_contrary 9 = .ok (.goto 9, 3) := by decide +kernel
theorem dc_L_contrary_12 : decode bc_L_contrary 12 = .ok (.astore_n 3, 1) := by decide +kernel
theorem dc_L_contrary_13 : decode bc_L_contrary 13 = .ok (.iconst 1, 1) := by decide +kernel
theorem dc_L_contrary_14 : decode bc_L_contrary 14 = .ok (.ireturn, 1) := by decide +kernel
theorem dc_L_contrary_15 : decode bc_L_contrary 15 = .ok (.astore_n 3, 1) := by decide +kernel
theorem dc_L_contrary_16 : decode bc_L_contrary 16 = .ok (.iconst 2, 1) := by decide +kernel
theorem dc_L_contrary_17 : decode bc_L_contrary 17 = .ok (.ireturn, 1) := by decide +kernel
theorem dc_L_contrary_18 : decode bc_L_contrary 18 = .ok (.iconst 0, 1) := by decide +kernel
theorem dc_L_contrary_19 : decode bc_L_contrary 19 = .ok (.ireturn, 1) := by decide +kernel
theorem dc_L_back_0 : decode bc_L_back 0 = .ok (.aload_n 2, 1) := by decide +kernel
theorem dc_L_back_1 : decode bc_L_back 1 = .ok (.iconst 0, 1) := by decide +kernel
theorem dc_L_back_2 : decode bc_L_back 2 = .ok (.aload_n 0, 1) := by decide +kernel
theorem dc_L_back_3 : decode bc_L_back 3 = .ok (.iload_n 1, 1) := by decide +kernel
theorem dc_L_back_4 : decode bc_L_back 4 = .ok (.invokevirtual 35, 3) := by decide +kernel
theorem dc_L_back_7 : decode bc_L_back 7 = .ok (.i2l, 1) := by decide +kernel
theorem dc_L_back_8 : decode bc_L_back 8 = .ok (.lastore, 1) := by decide +kernel
theorem dc_L_back_9 : decode bc_L_back 9 = .ok (.goto 9, 3) := by decide +kernel
theorem dc_L_back_12 : decode bc_L_back 12 = .ok (.astore_n 3, 1) := by decide +kernel
theorem dc_L_back_13 : decode bc_L_back 13 = .ok (.iconst 1, 1) := by decide +kernel
theorem dc_L_back_14 : decode bc_L_back 14 = .ok (.ireturn, 1) := by decide +kernel
theorem dc_L_back_15 : decode bc_L_back 15 = .ok (.astore_n 3, 1) := by decide +kernel
theorem dc_L_back_16 : decode bc_L_back 16 = .ok (.iconst 2, 1) := by decide +kernel
theorem dc_L_back_17 : decode bc_L_back 17 = .ok (.ireturn, 1) := by decide +kernel
theorem dc_L_back_18 : decode bc_L_back 18 = .ok (.iconst 0, 1) := by decide +kernel
theorem dc_L_back_19 : decode bc_L_back 19 = .ok (.ireturn, 1) := by decide +kernel
theorem dc_L_rest_0 : decode bc_L_rest 0 = .ok (.aload_n 3, 1) := by decide +kernel
theorem dc_L_rest_1 : decode bc_L_rest 1 = .ok (.iconst 0, 1) := by decide +kernel
theorem dc_L_rest_2 : decode bc_L_rest 2 = .ok (.aload_n 0, 1) := by decide +kernel
theorem dc_L_rest_3 : decode bc_L_rest 3 = .ok (.iload_n 1, 1) := by decide +kernel
theorem dc_L_rest_4 : decode bc_L_rest 4 = .ok (.iload_n 2, 1) := by decide +kernel
theorem dc_L_rest_5 : decode bc_L_rest 5 = .ok (.invokevirtual 38, 3) := by decide +kernel
theorem dc_L_rest_8 : decode bc_L_rest 8 = .ok (.i2l, 1) := by decide +kernel
theorem dc_L_rest_9 : decode bc_L_rest 9 = .ok (.lastore, 1) := by decide +kernel
theorem dc_L_rest_10 : decode bc_L_rest 10 = .ok (.goto 11, 3) := by decide +kernel
theorem dc_L_rest_13 : decode bc_L_rest 13 = .ok (.astore 4, 2) := by decide +kernel
theorem dc_L_rest_15 : decode bc_L_rest 15 = .ok (.iconst 1, 1) := by decide +kernel
theorem dc_L_rest_16 : decode bc_L_rest 16 = .ok (.ireturn, 1) := by decide +kernel
theorem dc_L_rest_17 : decode bc_L_rest 17 = .ok (.astore 4, 2) := by decide +kernel
theorem dc_L_rest_19 : decode bc_L_rest 19 = .ok (.iconst 2, 1) := by decide +kernel
theorem dc_L_rest_20 : decode bc_L_rest 20 = .ok (.ireturn, 1) := by decide +kernel
theorem dc_L_rest_21 : decode bc_L_rest 21 = .ok (.iconst 0, 1) := by decide +kernel
theorem dc_L_rest_22 : decode bc_L_rest 22 = .ok (.ireturn, 1) := by decide +kernel
theorem dc_L_beginnings_0 : decode bc_L_beginnings 0 = .ok (.aload_n 2, 1) := by decide +kernel
theorem dc_L_beginnings_1 : decode bc_L_beginnings 1 = .ok (.iconst 0, 1) := by decide +kernel
theorem dc_L_beginnings_2 : decode bc_L_beginnings 2 = .ok (.aload_n 0, 1) := by decide +kernel
theorem dc_L_beginnings_3 : decode bc_L_beginnings 3 = .ok (.iload_n 1, 1) := by decide +kernel
theorem dc_L_beginnings_4 : decode bc_L_beginnings 4 = .ok (.invokevirtual 41, 3) := by decide +kernel
theorem dc_L_beginnings_7 : decode bc_L_beginnings 7 = .ok (.i2l, 1) := by decide +kernel
theorem dc_L_beginnings_8 : decode bc_L_beginnings 8 = .ok (.lastore, 1) := by decide +kernel
theorem dc_L_beginnings_9 : decode bc_L_beginnings 9 = .ok (.goto 9, 3) := by decide +kernel
theorem dc_L_beginnings_12 : decode bc_L_beginnings 12 = .ok (.astore_n 3, 1) := by decide +kernel
theorem dc_L_beginnings_13 : decode bc_L_beginnings 13 = .ok (.iconst 1, 1) := by decide +kernel
theorem dc_L_beginnings_14 : decode bc_L_beginnings 14 = .ok (.ireturn, 1) := by decide +kernel
theorem dc_L_beginnings_15 : decode bc_L_beginnings 15 = .ok (.astore_n 3, 1) := by decide +kernel
theorem dc_L_beginnings_16 : decode bc_L_beginnings 16 = .ok (.iconst 2, 1) := by decide +kernel
theorem dc_L_beginnings_17 : decode bc_L_beginnings 17 = .ok (.ireturn, 1) := by decide +kernel
theorem dc_L_beginnings_18 : decode bc_L_beginnings 18 = .ok (.iconst 0, 1) := by decide +kernel
theorem dc_L_beginnings_19 : decode bc_L_beginnings 19 = .ok (.ireturn, 1) := by decide +kernel
theorem dc_L_has_0 : decode bc_L_has 0 = .ok (.aload 5, 2) := by decide +kernel
theorem dc_L_has_2 : decode bc_L_has 2 = .ok (.iconst 0, 1) := by decide +kernel
theorem dc_L_has_3 : decode bc_L_has 3 = .ok (.aload_n 0, 1) := by decide +kernel
theorem dc_L_has_4 : decode bc_L_has 4 = .ok (.iload_n 1, 1) := by decide +kernel
theorem dc_L_has_5 : decode bc_L_has 5 = .ok (.iload_n 2, 1) := by decide +kernel
theorem dc_L_has_6 : decode bc_L_has 6 = .ok (.lload_n 3, 1) := by decide +kernel
theorem dc_L_has_7 : decode bc_L_has 7 = .ok (.invokevirtual 44, 3) := by decide +kernel
theorem dc_L_has_10 : decode bc_L_has 10 = .ok (.ifCond .eq 7, 3) := by decide +kernel
theorem dc_L_has_13 : decode bc_L_has 13 = .ok (.lconst 1, 1) := by decide +kernel
theorem dc_L_has_14 : decode bc_L_has 14 = .ok (.goto 4, 3) := by decide +kernel
theorem dc_L_has_17 : decode bc_L_has 17 = .ok (.lconst 0, 1) := by decide +kernel
theorem dc_L_has_18 : decode bc_L_has 18 = .ok (.lastore, 1) := by decide +kernel
theorem dc_L_has_19 : decode bc_L_has 19 = .ok (.goto 7, 3) := by decide +kernel
theorem dc_L_has_22 : decode bc_L_has 22 = .ok (.astore 6, 2) := by decide +kernel
theorem dc_L_has_24 : decode bc_L_has 24 = .ok (.iconst 1, 1) := by decide +kernel
theorem dc_L_has_25 : decode bc_L_has 25 = .ok (.ireturn, 1) := by decide +kernel
theorem dc_L_has_26 : decode bc_L_has 26 = .ok (.iconst 0, 1) := by decide +kernel
theorem dc_L_has_27 : decode bc_L_has 27 = .ok (.ireturn, 1) := by decide +kernel
theorem dc_L_same_0 : decode bc_L_same 0 = .ok (.aload_n 3, 1) := by decide +kernel
theorem dc_L_same_1 : decode bc_L_same 1 = .ok (.iconst 0, 1) := by decide +kernel
theorem dc_L_same_2 : decode bc_L_same 2 = .ok (.aload_n 0, 1) := by decide +kernel
theorem dc_L_same_3 : decode bc_L_same 3 = .ok (.iload_n 1, 1) := by decide +kernel
theorem dc_L_same_4 : decode bc_L_same 4 = .ok (.iload_n 2, 1) := by decide +kernel
theorem dc_L_same_5 : decode bc_L_same 5 = .ok (.invokevirtual 48, 3) := by decide +kernel
theorem dc_L_same_8 : decode bc_L_same 8 = .ok (.ifCond .eq 7, 3) := by decide +kernel
theorem dc_L_same_11 : decode bc_L_same 11 = .ok (.lconst 1, 1) := by decide +kernel
theorem dc_L_same_12 : decode bc_L_same 12 = .ok (.goto 4, 3) := by decide +kernel
theorem dc_L_same_15 : decode bc_L_same 15 = .ok (.lconst 0, 1) := by decide +kernel
theorem dc_L_same_16 : decode bc_L_same 16 = .ok (.lastore, 1) := by decide +kernel
theorem dc_L_same_17 : decode bc_L_same 17 = .ok (.goto 7, 3) := by decide +kernel
theorem dc_L_same_20 : decode bc_L_same 20 = .ok (.astore 4, 2) := by decide +kernel
theorem dc_L_same_22 : decode bc_L_same 22 = .ok (.iconst 1, 1) := by decide +kernel
theorem dc_L_same_23 : decode bc_L_same 23 = .ok (.ireturn, 1) := by decide +kernel
theorem dc_L_same_24 : decode bc_L_same 24 = .ok (.iconst 0, 1) := by decide +kernel
theorem dc_L_same_25 : decode bc_L_same 25 = .ok (.ireturn, 1) := by decide +kernel
theorem dc_L_inside_0 : decode bc_L_inside 0 = .ok (.aload_n 3, 1) := by decide +kernel
theorem dc_L_inside_1 : decode bc_L_inside 1 = .ok (.iconst 0, 1) := by decide +kernel
theorem dc_L_inside_2 : decode bc_L_inside 2 = .ok (.aload_n 0, 1) := by decide +kernel
theorem dc_L_inside_3 : decode bc_L_inside 3 = .ok (.iload_n 1, 1) := by decide +kernel
theorem dc_L_inside_4 : decode bc_L_inside 4 = .ok (.iload_n 2, 1) := by decide +kernel
theorem dc_L_inside_5 : decode bc_L_inside 5 = .ok (.invokevirtual 52, 3) := by decide +kernel
theorem dc_L_inside_8 : decode bc_L_inside 8 = .ok (.ifCond .eq 7, 3) := by decide +kernel
theorem dc_L_inside_11 : decode bc_L_inside 11 = .ok (.lconst 1, 1) := by decide +kernel
theorem dc_L_inside_12 : decode bc_L_inside 12 = .ok (.goto 4, 3) := by decide +kernel
theorem dc_L_inside_15 : decode bc_L_inside 15 = .ok (.lconst 0, 1) := by decide +kernel
theorem dc_L_inside_16 : decode bc_L_inside 16 = .ok (.lastore, 1) := by decide +kernel
theorem dc_L_inside_17 : decode bc_L_inside 17 = .ok (.goto 7, 3) := by decide +kernel
theorem dc_L_inside_20 : decode bc_L_inside 20 = .ok (.astore 4, 2) := by decide +kernel
theorem dc_L_inside_22 : decode bc_L_inside 22 = .ok (.iconst 1, 1) := by decide +kernel
theorem dc_L_inside_23 : decode bc_L_inside 23 = .ok (.ireturn, 1) := by decide +kernel
theorem dc_L_inside_24 : decode bc_L_inside 24 = .ok (.iconst 0, 1) := by decide +kernel
theorem dc_L_inside_25 : decode bc_L_inside 25 = .ok (.ireturn, 1) := by decide +kernel
theorem dc_L_rests_0 : decode bc_L_rests 0 = .ok (.aload_n 2, 1) := by decide +kernel
theorem dc_L_rests_1 : decode bc_L_rests 1 = .ok (.iconst 0, 1) := by decide +kernel
theorem dc_L_rests_2 : decode bc_L_rests 2 = .ok (.aload_n 0, 1) := by decide +kernel
theorem dc_L_rests_3 : decode bc_L_rests 3 = .ok (.iload_n 1, 1) := by decide +kernel
theorem dc_L_rests_4 : decode bc_L_rests 4 = .ok (.invokevirtual 55, 3) := by decide +kernel
theorem dc_L_rests_7 : decode bc_L_rests 7 = .ok (.i2l, 1) := by decide +kernel
theorem dc_L_rests_8 : decode bc_L_rests 8 = .ok (.lastore, 1) := by decide +kernel
theorem dc_L_rests_9 : decode bc_L_rests 9 = .ok (.goto 6, 3) := by decide +kernel
theorem dc_L_rests_12 : decode bc_L_rests 12 = .ok (.astore_n 3, 1) := by decide +kernel
theorem dc_L_rests_13 : decode bc_L_rests 13 = .ok (.iconst 1, 1) := by decide +kernel
theorem dc_L_rests_14 : decode bc_L_rests 14 = .ok (.ireturn, 1) := by decide +kernel
theorem dc_L_rests_15 : decode bc_L_rests 15 = .ok (.iconst 0, 1) := by decide +kernel
theorem dc_L_rests_16 : decode bc_L_rests 16 = .ok (.ireturn, 1) := by decide +kernel
theorem dc_L_words_0 : decode bc_L_words 0 = .ok (.aload_n 3, 1) := by decide +kernel
theorem dc_L_words_1 : decode bc_L_words 1 = .ok (.iconst 0, 1) := by decide +kernel
theorem dc_L_words_2 : decode bc_L_words 2 = .ok (.aload_n 0, 1) := by decide +kernel
theorem dc_L_words_3 : decode bc_L_words 3 = .ok (.iload_n 1, 1) := by decide +kernel
theorem dc_L_words_4 : decode bc_L_words 4 = .ok (.iload_n 2, 1) := by decide +kernel
theorem dc_L_words_5 : decode bc_L_words 5 = .ok (.invokevirtual 58, 3) := by decide +kernel
theorem dc_L_words_8 : decode bc_L_words 8 = .ok (.lastore, 1) := by decide +kernel
theorem dc_L_words_9 : decode bc_L_words 9 = .ok (.goto 7, 3) := by decide +kernel
theorem dc_L_words_12 : decode bc_L_words 12 = .ok (.astore 4, 2) := by decide +kernel
theorem dc_L_words_14 : decode bc_L_words 14 = .ok (.iconst 1, 1) := by decide +kernel
theorem dc_L_words_15 : decode bc_L_words 15 = .ok (.ireturn, 1) := by decide +kernel
theorem dc_L_words_16 : decode bc_L_words 16 = .ok (.iconst 0, 1) := by decide +kernel
theorem dc_L_words_17 : decode bc_L_words 17 = .ok (.ireturn, 1) := by decide +kernel
theorem dc_L_shortest_0 : decode bc_L_shortest 0 = .ok (.aload_n 2, 1) := by decide +kernel
theorem dc_L_shortest_1 : decode bc_L_shortest 1 = .ok (.iconst 0, 1) := by decide +kernel
theorem dc_L_shortest_2 : decode bc_L_shortest 2 = .ok (.aload_n 0, 1) := by decide +kernel
theorem dc_L_shortest_3 : decode bc_L_shortest 3 = .ok (.iload_n 1, 1) := by decide +kernel
theorem dc_L_shortest_4 : decode bc_L_shortest 4 = .ok (.invokevirtual 62, 3) := by decide +kernel
theorem dc_L_shortest_7 : decode bc_L_shortest 7 = .ok (.i2l, 1) := by decide +kernel
theorem dc_L_shortest_8 : decode bc_L_shortest 8 = .ok (.lastore, 1) := by decide +kernel
theorem dc_L_shortest_9 : decode bc_L_shortest 9 = .ok (.goto 9, 3) := by decide +kernel
theorem dc_L_shortest_12 : decode bc_L_shortest 12 = .ok (.astore_n 3, 1) := by decide +kernel
theorem dc_L_shortest_13 : decode bc_L_shortest 13 = .ok (.iconst 1, 1) := by decide +kernel
theorem dc_L_shortest_14 : decode bc_L_shortest 14 = .ok (.ireturn, 1) := by decide +kernel
theorem dc_L_shortest_15 : decode bc_L_shortest 15 = .ok (.astore_n 3, 1) := by decide +kernel
theorem dc_L_shortest_16 : decode bc_L_shortest 16 = .ok (.iconst 2, 1) := by decide +kernel
theorem dc_L_shortest_17 : decode bc_L_shortest 17 = .ok (.ireturn, 1) := by decide +kernel
theorem dc_L_shortest_18 : decode bc_L_shortest 18 = .ok (.iconst 0, 1) := by decide +kernel
theorem dc_L_shortest_19 : decode bc_L_shortest 19 = .ok (.ireturn, 1) := by decide +kernel
theorem dc_L_letter_0 : decode bc_L_letter 0 = .ok (.aload_n 3, 1) := by decide +kernel
theorem dc_L_letter_1 : decode bc_L_letter 1 = .ok (.iconst 0, 1) := by decide +kernel
theorem dc_L_letter_2 : decode bc_L_letter 2 = .ok (.aload_n 0, 1) := by decide +kernel
theorem dc_L_letter_3 : decode bc_L_letter 3 = .ok (.iload_n 1, 1) := by decide +kernel
theorem dc_L_letter_4 : decode bc_L_letter 4 = .ok (.iload_n 2, 1) := by decide +kernel
theorem dc_L_letter_5 : decode bc_L_letter 5 = .ok (.invokevirtual 67, 3) := by decide +kernel
theorem dc_L_letter_8 : decode bc_L_letter 8 = .ok (.i2l, 1) := by decide +kernel
theorem dc_L_letter_9 : decode bc_L_letter 9 = .ok (.lastore, 1) := by decide +kernel
theorem dc_L_letter_10 : decode bc_L_letter 10 = .ok (.goto 11, 3) := by decide +kernel
theorem dc_L_letter_13 : decode bc_L_letter 13 = .ok (.astore 4, 2) := by decide +kernel
theorem dc_L_letter_15 : decode bc_L_letter 15 = .ok (.iconst 1, 1) := by decide +kernel
theorem dc_L_letter_16 : decode bc_L_letter 16 = .ok (.ireturn, 1) := by decide +kernel
theorem dc_L_letter_17 : decode bc_L_letter 17 = .ok (.astore 4, 2) := by decide +kernel
theorem dc_L_letter_19 : decode bc_L_letter 19 = .ok (.iconst 2, 1) := by decide +kernel
theorem dc_L_letter_20 : decode bc_L_letter 20 = .ok (.ireturn, 1) := by decide +kernel
theorem dc_L_letter_21 : decode bc_L_letter 21 = .ok (.iconst 0, 1) := by decide +kernel
theorem dc_L_letter_22 : decode bc_L_letter 22 = .ok (.ireturn, 1) := by decide +kernel
theorem dc_L_size_0 : decode bc_L_size 0 = .ok (.aload_n 2, 1) := by decide +kernel
theorem dc_L_size_1 : decode bc_L_size 1 = .ok (.iconst 0, 1) := by decide +kernel
theorem dc_L_size_2 : decode bc_L_size 2 = .ok (.aload_n 0, 1) := by decide +kernel
theorem dc_L_size_3 : decode bc_L_size 3 = .ok (.iload_n 1, 1) := by decide +kernel
theorem dc_L_size_4 : decode bc_L_size 4 = .ok (.invokevirtual 70, 3) := by decide +kernel
theorem dc_L_size_7 : decode bc_L_size 7 = .ok (.i2l, 1) := by decide +kernel
theorem dc_L_size_8 : decode bc_L_size 8 = .ok (.lastore, 1) := by decide +kernel
theorem dc_L_size_9 : decode bc_L_size 9 = .ok (.goto 6, 3) := by decide +kernel
theorem dc_L_size_12 : decode bc_L_size 12 = .ok (.astore_n 3, 1) := by decide +kernel
theorem dc_L_size_13 : decode bc_L_size 13 = .ok (.iconst 1, 1) := by decide +kernel
theorem dc_L_size_14 : decode bc_L_size 14 = .ok (.ireturn, 1) := by decide +kernel
theorem dc_L_size_15 : decode bc_L_size 15 = .ok (.iconst 0, 1) := by decide +kernel
theorem dc_L_size_16 : decode bc_L_size 16 = .ok (.ireturn, 1) := by decide +kernel
