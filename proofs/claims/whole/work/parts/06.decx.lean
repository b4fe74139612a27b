theorem dc_X_init_0 : decode bc_X_init 0 = .ok (.aload_n 0, 1) := by decide +kernel
theorem dc_X_init_1 : decode bc_X_init 1 = .ok (.invokespecial 3, 3) := by decide +kernel
theorem dc_X_init_4 : decode bc_X_init 4 = .ok (.aload_n 0, 1) := by decide +kernel
theorem dc_X_init_5 : decode bc_X_init 5 = .ok (.bipush 80, 2) := by decide +kernel
theorem dc_X_init_7 : decode bc_X_init 7 = .ok (.anewarray 9, 3) := by decide +kernel
theorem dc_X_init_10 : decode bc_X_init 10 = .ok (.putfield 11, 3) := by decide +kernel
theorem dc_X_init_13 : decode bc_X_init 13 = .ok (.aload_n 0, 1) := by decide +kernel
theorem dc_X_init_14 : decode bc_X_init 14 = .ok (.new 15, 3) := by decide +kernel
theorem dc_X_init_17 : decode bc_X_init 17 = .ok (.dup, 1) := by decide +kernel
theorem dc_X_init_18 : decode bc_X_init 18 = .ok (.invokespecial 17, 3) := by decide +kernel
theorem dc_X_init_21 : decode bc_X_init 21 = .ok (.putfield 18, 3) := by decide +kernel
theorem dc_X_init_24 : decode bc_X_init 24 = .ok (.aload_n 0, 1) := by decide +kernel
theorem dc_X_init_25 : decode bc_X_init 25 = .ok (.new 22, 3) := by decide +kernel
theorem dc_X_init_28 : decode bc_X_init 28 = .ok (.dup, 1) := by decide +kernel
theorem dc_X_init_29 : decode bc_X_init 29 = .ok (.invokespecial 24, 3) := by decide +kernel
theorem dc_X_init_32 : decode bc_X_init 32 = .ok (.putfield 25, 3) := by decide +kernel
theorem dc_X_init_35 : decode bc_X_init 35 = .ok (.iconst 0, 1) := by decide +kernel
theorem dc_X_init_36 : decode bc_X_init 36 = .ok (.istore_n 1, 1) := by decide +kernel
theorem dc_X_init_37 : decode bc_X_init 37 = .ok (.iload_n 1, 1) := by decide +kernel
theorem dc_X_init_38 : decode bc_X_init 38 = .ok (.bipush 80, 2) := by decide +kernel
theorem dc_X_init_40 : decode bc_X_init 40 = .ok (.if_icmp .ge 22, 3) := by decide +kernel
theorem dc_X_init_43 : decode bc_X_init 43 = .ok (.aload_n 0, 1) := by decide +kernel
theorem dc_X_init_44 : decode bc_X_init 44 = .ok (.getfield 11, 3) := by decide +kernel
theorem dc_X_init_47 : decode bc_X_init 47 = .ok (.iload_n 1, 1) := by decide +kernel
theorem dc_X_init_48 : decode bc_X_init 48 = .ok (.new 9, 3) := by decide +kernel
theorem dc_X_init_51 : decode bc_X_init 51 = .ok (.dup, 1) := by decide +kernel
theorem dc_X_init_52 : decode bc_X_init 52 = .ok (.invokespecial 29, 3) := by decide +kernel
theorem dc_X_init_55 : decode bc_X_init 55 = .ok (.aastore, 1) := by decide +kernel
theorem dc_X_init_56 : decode bc_X_init 56 = .ok (.iinc 1 1, 3) := by decide +kernel
theorem dc_X_init_59 : decode bc_X_init 59 = .ok (.goto (-22), 3) := by decide +kernel
theorem dc_X_init_62 : decode bc_X_init 62 = .ok (.return_, 1) := by decide +kernel
theorem dc_X_letters_0 : decode bc_X_letters 0 = .ok (.iload_n 1, 1) := by decide +kernel
theorem dc_X_letters_1 : decode bc_X_letters 1 = .ok (.ifCond .lt 9, 3) := by decide +kernel
theorem dc_X_letters_4 : decode bc_X_letters 4 = .ok (.iload_n 1, 1) := by decide +kernel
theorem dc_X_letters_5 : decode bc_X_letters 5 = .ok (.bipush 8, 2) := by decide +kernel
theorem dc_X_letters_7 : decode bc_X_letters 7 = .ok (.if_icmp .lt 13, 3) := by decide +kernel
theorem dc_X_letters_10 : decode bc_X_letters 10 = .ok (.new 30, 3) := by decide +kernel
theorem dc_X_letters_13 : decode bc_X_letters 13 = .ok (.dup, 1) := by decide +kernel
theorem dc_X_letters_14 : decode bc_X_letters 14 = .ok (.ldc 32, 2) := by decide +kernel
theorem dc_X_letters_16 : decode bc_X_letters 16 = .ok (.invokespecial 34, 3) := by decide +kernel
theorem dc_X_letters_19 : decode bc_X_letters 19 = .ok (.athrow, 1) := by decide +kernel
theorem dc_X_letters_20 : decode bc_X_letters 20 = .ok (.aload_n 0, 1) := by decide +kernel
theorem dc_X_letters_21 : decode bc_X_letters 21 = .ok (.new 37, 3) := by decide +kernel
theorem dc_X_letters_24 : decode bc_X_letters 24 = .ok (.dup, 1) := by decide +kernel
theorem dc_X_letters_25 : decode bc_X_letters 25 = .ok (.iload_n 1, 1) := by decide +kernel
theorem dc_X_letters_26 : decode bc_X_letters 26 = .ok (.iconst 0, 1) := by decide +kernel
theorem dc_X_letters_27 : decode bc_X_letters 27 = .ok (.invokespecial 39, 3) := by decide +kernel
theorem dc_X_letters_30 : decode bc_X_letters 30 = .ok (.invokevirtual 42, 3) := by decide +kernel
theorem dc_X_letters_33 : decode bc_X_letters 33 = .ok (.ireturn, 1) := by decide +kernel
theorem dc_X_empty_0 : decode bc_X_empty 0 = .ok (.aload_n 0, 1) := by decide +kernel
theorem dc_X_empty_1 : decode bc_X_empty 1 = .ok (.new 37, 3) := by decide +kernel
theorem dc_X_empty_4 : decode bc_X_empty 4 = .ok (.dup, 1) := by decide +kernel
theorem dc_X_empty_5 : decode bc_X_empty 5 = .ok (.iconst 0, 1) := by decide +kernel
theorem dc_X_empty_6 : decode bc_X_empty 6 = .ok (.iconst 1, 1) := by decide +kernel
theorem dc_X_empty_7 : decode bc_X_empty 7 = .ok (.invokespecial 39, 3) := by decide +kernel
theorem dc_X_empty_10 : decode bc_X_empty 10 = .ok (.invokevirtual 42, 3) := by decide +kernel
theorem dc_X_empty_13 : decode bc_X_empty 13 = .ok (.ireturn, 1) := by decide +kernel
theorem dc_X_then_0 : decode bc_X_then 0 = .ok (.aload_n 0, 1) := by decide +kernel
theorem dc_X_then_1 : decode bc_X_then 1 = .ok (.new 46, 3) := by decide +kernel
theorem dc_X_then_4 : decode bc_X_then 4 = .ok (.dup, 1) := by decide +kernel
theorem dc_X_then_5 : decode bc_X_then 5 = .ok (.aload_n 0, 1) := by decide +kernel
theorem dc_X_then_6 : decode bc_X_then 6 = .ok (.iload_n 1, 1) := by decide +kernel
theorem dc_X_then_7 : decode bc_X_then 7 = .ok (.invokevirtual 48, 3) := by decide +kernel
theorem dc_X_then_10 : decode bc_X_then 10 = .ok (.aload_n 0, 1) := by decide +kernel
theorem dc_X_then_11 : decode bc_X_then 11 = .ok (.iload_n 2, 1) := by decide +kernel
theorem dc_X_then_12 : decode bc_X_then 12 = .ok (.invokevirtual 48, 3) := by decide +kernel
theorem dc_X_then_15 : decode bc_X_then 15 = .ok (.invokespecial 52, 3) := by decide +kernel
theorem dc_X_then_18 : decode bc_X_then 18 = .ok (.invokevirtual 42, 3) := by decide +kernel
theorem dc_X_then_21 : decode bc_X_then 21 = .ok (.ireturn, 1) := by decide +kernel
theorem dc_X_both_0 : decode bc_X_both 0 = .ok (.iload_n 1, 1) := by decide +kernel
theorem dc_X_both_1 : decode bc_X_both 1 = .ok (.ifCond .lt 8, 3) := by decide +kernel
theorem dc_X_both_4 : decode bc_X_both 4 = .ok (.iload_n 1, 1) := by decide +kernel
theorem dc_X_both_5 : decode bc_X_both 5 = .ok (.iconst 3, 1) := by decide +kernel
theorem dc_X_both_6 : decode bc_X_both 6 = .ok (.if_icmp .le 13, 3) := by decide +kernel
theorem dc_X_both_9 : decode bc_X_both 9 = .ok (.new 30, 3) := by decide +kernel
theorem dc_X_both_12 : decode bc_X_both 12 = .ok (.dup, 1) := by decide +kernel
theorem dc_X_both_13 : decode bc_X_both 13 = .ok (.ldc 55, 2) := by decide +kernel
theorem dc_X_both_15 : decode bc_X_both 15 = .ok (.invokespecial 34, 3) := by decide +kernel
theorem dc_X_both_18 : decode bc_X_both 18 = .ok (.athrow, 1) := by decide +kernel
theorem dc_X_both_19 : decode bc_X_both 19 = .ok (.aload_n 0, 1) := by decide +kernel
theorem dc_X_both_20 : decode bc_X_both 20 = .ok (.new 57, 3) := by decide +kernel
theorem dc_X_both_23 : decode bc_X_both 23 = .ok (.dup, 1) := by decide +kernel
theorem dc_X_both_24 : decode bc_X_both 24 = .ok (.iload_n 1, 1) := by decide +kernel
theorem dc_X_both_25 : decode bc_X_both 25 = .ok (.aload_n 0, 1) := by decide +kernel
theorem dc_X_both_26 : decode bc_X_both 26 = .ok (.iload_n 2, 1) := by decide +kernel
theorem dc_X_both_27 : decode bc_X_both 27 = .ok (.invokevirtual 48, 3) := by decide +kernel
theorem dc_X_both_30 : decode bc_X_both 30 = .ok (.aload_n 0, 1) := by decide +kernel
theorem dc_X_both_31 : decode bc_X_both 31 = .ok (.iload_n 3, 1) := by decide +kernel
theorem dc_X_both_32 : decode bc_X_both 32 = .ok (.invokevirtual 48, 3) := by decide +kernel
theorem dc_X_both_35 : decode bc_X_both 35 = .ok (.invokespecial 59, 3) := by decide +kernel
theorem dc_X_both_38 : decode bc_X_both 38 = .ok (.invokevirtual 42, 3) := by decide +kernel
theorem dc_X_both_41 : decode bc_X_both 41 = .ok (.ireturn, 1) := by decide +kernel
theorem dc_X_many_0 : decode bc_X_many 0 = .ok (.aload_n 0, 1) := by decide +kernel
theorem dc_X_many_1 : decode bc_X_many 1 = .ok (.new 62, 3) := by decide +kernel
theorem dc_X_many_4 : decode bc_X_many 4 = .ok (.dup, 1) := by decide +kernel
theorem dc_X_many_5 : decode bc_X_many 5 = .ok (.aload_n 0, 1) := by decide +kernel
theorem dc_X_many_6 : decode bc_X_many 6 = .ok (.iload_n 1, 1) := by decide +kernel
theorem dc_X_many_7 : decode bc_X_many 7 = .ok (.invokevirtual 48, 3) := by decide +kernel
theorem dc_X_many_10 : decode bc_X_many 10 = .ok (.invokespecial 64, 3) := by decide +kernel
theorem dc_X_many_13 : decode bc_X_many 13 = .ok (.invokevirtual 42, 3) := by decide +kernel
theorem dc_X_many_16 : decode bc_X_many 16 = .ok (.ireturn, 1) := by decide +kernel
theorem dc_X_contrary_0 : decode bc_X_contrary 0 = .ok (.aload_n 0, 1) := by decide +kernel
theorem dc_X_contrary_1 : decode bc_X_contrary 1 = .ok (.iload_n 1, 1) := by decide +kernel
theorem dc_X_contrary_2 : decode bc_X_contrary 2 = .ok (.invokevirtual 48, 3) := by decide +kernel
theorem dc_X_contrary_5 : decode bc_X_contrary 5 = .ok (.astore_n 2, 1) := by decide +kernel
theorem dc_X_contrary_6 : decode bc_X_contrary 6 = .ok (.aload_n 0, 1) := by decide +kernel
theorem dc_X_contrary_7 : decode bc_X_contrary 7 = .ok (.new 67, 3) := by decide +kernel
theorem dc_X_contrary_10 : decode bc_X_contrary 10 = .ok (.dup, 1) := by decide +kernel
theorem dc_X_contrary_11 : decode bc_X_contrary 11 = .ok (.aload_n 2, 1) := by decide +kernel
theorem dc_X_contrary_12 : decode bc_X_contrary 12 = .ok (.iconst 0, 1) := by decide +kernel
theorem dc_X_contrary_13 : decode bc_X_contrary 13 = .ok (.aload_n 2, 1) := by decide +kernel
theorem dc_X_contrary_14 : decode bc_X_contrary 14 = .ok (.getfield 69, 3) := by decide +kernel
theorem dc_X_contrary_17 : decode bc_X_contrary 17 = .ok (.iconst (-1), 1) := by decide +kernel
theorem dc_X_contrary_18 : decode bc_X_contrary 18 = .ok (.ixor, 1) := by decide +kernel
theorem dc_X_contrary_19 : decode bc_X_contrary 19 = .ok (.invokespecial 73, 3) := by decide +kernel
theorem dc_X_contrary_22 : decode bc_X_contrary 22 = .ok (.invokevirtual 42, 3) := by decide +kernel
theorem dc_X_contrary_25 : decode bc_X_contrary 25 = .ok (.ireturn, 1) := by decide +kernel
theorem dc_X_back_0 : decode bc_X_back 0 = .ok (.aload_n 0, 1) := by decide +kernel
theorem dc_X_back_1 : decode bc_X_back 1 = .ok (.new 76, 3) := by decide +kernel
theorem dc_X_back_4 : decode bc_X_back 4 = .ok (.dup, 1) := by decide +kernel
theorem dc_X_back_5 : decode bc_X_back 5 = .ok (.aload_n 0, 1) := by decide +kernel
theorem dc_X_back_6 : decode bc_X_back 6 = .ok (.iload_n 1, 1) := by decide +kernel
theorem dc_X_back_7 : decode bc_X_back 7 = .ok (.invokevirtual 48, 3) := by decide +kernel
theorem dc_X_back_10 : decode bc_X_back 10 = .ok (.invokespecial 78, 3) := by decide +kernel
theorem dc_X_back_13 : decode bc_X_back 13 = .ok (.invokevirtual 42, 3) := by decide +kernel
theorem dc_X_back_16 : decode bc_X_back 16 = .ok (.ireturn, 1) := by decide +kernel
theorem dc_X_rest_0 : decode bc_X_rest 0 = .ok (.aload_n 0, 1) := by decide +kernel
theorem dc_X_rest_1 : decode bc_X_rest 1 = .ok (.iload_n 1, 1) := by decide +kernel
theorem dc_X_rest_2 : decode bc_X_rest 2 = .ok (.invokevirtual 48, 3) := by decide +kernel
theorem dc_X_rest_5 : decode bc_X_rest 5 = .ok (.astore_n 3, 1) := by decide +kernel
theorem dc_X_rest_6 : decode bc_X_rest 6 = .ok (.iload_n 2, 1) := by decide +kernel
theorem dc_X_rest_7 : decode bc_X_rest 7 = .ok (.ifCond .lt 8, 3) := by decide +kernel
theorem dc_X_rest_10 : decode bc_X_rest 10 = .ok (.iload_n 2, 1) := by decide +kernel
theorem dc_X_rest_11 : decode bc_X_rest 11 = .ok (.iconst 3, 1) := by decide +kernel
theorem dc_X_rest_12 : decode bc_X_rest 12 = .ok (.if_icmp .lt 13, 3) := by decide +kernel
theorem dc_X_rest_15 : decode bc_X_rest 15 = .ok (.new 30, 3) := by decide +kernel
theorem dc_X_rest_18 : decode bc_X_rest 18 = .ok (.dup, 1) := by decide +kernel
theorem dc_X_rest_19 : decode bc_X_rest 19 = .ok (.ldc 79, 2) := by decide +kernel
theorem dc_X_rest_21 : decode bc_X_rest 21 = .ok (.invokespecial 34, 3) := by decide +kernel
theorem dc_X_rest_24 : decode bc_X_rest 24 = .ok (.athrow, 1) := by decide +kernel
theorem dc_X_rest_25 : decode bc_X_rest 25 = .ok (.aload_n 0, 1) := by decide +kernel
theorem dc_X_rest_26 : decode bc_X_rest 26 = .ok (.new 67, 3) := by decide +kernel
theorem dc_X_rest_29 : decode bc_X_rest 29 = .ok (.dup, 1) := by decide +kernel
theorem dc_X_rest_30 : decode bc_X_rest 30 = .ok (.aload_n 3, 1) := by decide +kernel
theorem dc_X_rest_31 : decode bc_X_rest 31 = .ok (.aload_n 3, 1) := by decide +kernel
theorem dc_X_rest_32 : decode bc_X_rest 32 = .ok (.iconst 0, 1) := by decide +kernel
theorem dc_X_rest_33 : decode bc_X_rest 33 = .ok (.iload_n 2, 1) := by decide +kernel
theorem dc_X_rest_34 : decode bc_X_rest 34 = .ok (.invokevirtual 81, 3) := by decide +kernel
theorem dc_X_rest_37 : decode bc_X_rest 37 = .ok (.aload_n 3, 1) := by decide +kernel
theorem dc_X_rest_38 : decode bc_X_rest 38 = .ok (.getfield 69, 3) := by decide +kernel
theorem dc_X_rest_41 : decode bc_X_rest 41 = .ok (.invokespecial 73, 3) := by decide +kernel
theorem dc_X_rest_44 : decode bc_X_rest 44 = .ok (.invokevirtual 42, 3) := by decide +kernel
theorem dc_X_rest_47 : decode bc_X_rest 47 = .ok (.ireturn, 1) := by decide +kernel
theorem dc_X_beginnings_0 : decode bc_X_beginnings 0 = .ok (.aload_n 0, 1) := by decide +kernel
theorem dc_X_beginnings_1 : decode bc_X_beginnings 1 = .ok (.iload_n 1, 1) := by decide +kernel
theorem dc_X_beginnings_2 : decode bc_X_beginnings 2 = .ok (.invokevirtual 48, 3) := by decide +kernel
theorem dc_X_beginnings_5 : decode bc_X_beginnings 5 = .ok (.astore_n 2, 1) := by decide +kernel
theorem dc_X_beginnings_6 : decode bc_X_beginnings 6 = .ok (.aload_n 0, 1) := by decide +kernel
theorem dc_X_beginnings_7 : decode bc_X_beginnings 7 = .ok (.new 67, 3) := by decide +kernel
theorem dc_X_beginnings_10 : decode bc_X_beginnings 10 = .ok (.dup, 1) := by decide +kernel
theorem dc_X_beginnings_11 : decode bc_X_beginnings 11 = .ok (.aload_n 2, 1) := by decide +kernel
theorem dc_X_beginnings_12 : decode bc_X_beginnings 12 = .ok (.iconst 0, 1) := by decide +kernel
theorem dc_X_beginnings_13 : decode bc_X_beginnings 13 = .ok (.aload_n 2, 1) := by decide +kernel
theorem dc_X_beginnings_14 : decode bc_X_beginnings 14 = .ok (.getfield 85, 3) := by decide +kernel
theorem dc_X_beginnings_17 : decode bc_X_beginnings 17 = .ok (.invokespecial 73, 3) := by decide +kernel
theorem dc_X_beginnings_20 : decode bc_X_beginnings 20 = .ok (.invokevirtual 42, 3) := by decide +kernel
theorem dc_X_beginnings_23 : decode bc_X_beginnings 23 = .ok (.ireturn, 1) := by decide +kernel
theorem dc_X_has_0 : decode bc_X_has 0 = .ok (.aload_n 0, 1) := by decide +kernel
theorem dc_X_has_1 : decode bc_X_has 1 = .ok (.iload_n 1, 1) := by decide +kernel
theorem dc_X_has_2 : decode bc_X_has 2 = .ok (.invokevirtual 48, 3) := by decide +kernel
theorem dc_X_has_5 : decode bc_X_has 5 = .ok (.astore 5, 2) := by decide +kernel
theorem dc_X_has_7 : decode bc_X_has 7 = .ok (.iload_n 2, 1) := by decide +kernel
theorem dc_X_has_8 : decode bc_X_has 8 = .ok (.ifCond .lt 9, 3) := by decide +kernel
theorem dc_X_has_11 : decode bc_X_has 11 = .ok (.iload_n 2, 1) := by decide +kernel
theorem dc_X_has_12 : decode bc_X_has 12 = .ok (.bipush 30, 2) := by decide +kernel
theorem dc_X_has_14 : decode bc_X_has 14 = .ok (.if_icmp .le 13, 3) := by decide +kernel
theorem dc_X_has_17 : decode bc_X_has 17 = .ok (.new 30, 3) := by decide +kernel
theorem dc_X_has_20 : decode bc_X_has 20 = .ok (.dup, 1) := by decide +kernel
theorem dc_X_has_21 : decode bc_X_has 21 = .ok (.ldc 88, 2) := by decide +kernel
theorem dc_X_has_23 : decode bc_X_has 23 = .ok (.invokespecial 34, 3) := by decide +kernel
theorem dc_X_has_26 : decode bc_X_has 26 = .ok (.athrow, 1) := by decide +kernel
theorem dc_X_has_27 : decode bc_X_has 27 = .ok (.iconst 0, 1) := by decide +kernel
theorem dc_X_has_28 : decode bc_X_has 28 = .ok (.istore 6, 2) := by decide +kernel
theorem dc_X_has_30 : decode bc_X_has 30 = .ok (.iconst 0, 1) := by decide +kernel
theorem dc_X_has_31 : decode bc_X_has 31 = .ok (.istore 7, 2) := by decide +kernel
theorem dc_X_has_33 : decode bc_X_has 33 = .ok (.iload 7, 2) := by decide +kernel
theorem dc_X_has_35 : decode bc_X_has 35 = .ok (.iload_n 2, 1) := by decide +kernel
theorem dc_X_has_36 : decode bc_X_has 36 = .ok (.if_icmp .ge 47, 3) := by decide +kernel
theorem dc_X_has_39 : decode bc_X_has 39 = .ok (.lload_n 3, 1) := by decide +kernel
theorem dc_X_has_40 : decode bc_X_has 40 = .ok (.iconst 2, 1) := by decide +kernel
theorem dc_X_has_41 : decode bc_X_has 41 = .ok (.iload 7, 2) := by decide +kernel
theorem dc_X_has_43 : decode bc_X_has 43 = .ok (.imul, 1) := by decide +kernel
theorem dc_X_has_44 : decode bc_X_has 44 = .ok (.lushr, 1) := by decide +kernel
theorem dc_X_has_45 : decode bc_X_has 45 = .ok (.l2i, 1) := by decide +kernel
theorem dc_X_has_46 : decode bc_X_has 46 = .ok (.iconst 3, 1) := by decide +kernel
theorem dc_X_has_47 : decode bc_X_has 47 = .ok (.iand, 1) := by decide +kernel
theorem dc_X_has_48 : decode bc_X_has 48 = .ok (.istore 8, 2) := by decide +kernel
theorem dc_X_has_50 : decode bc_X_has 50 = .ok (.iload 8, 2) := by decide +kernel
theorem dc_X_has_52 : decode bc_X_has 52 = .ok (.iconst 3, 1) := by decide +kernel
theorem dc_X_has_53 : decode bc_X_has 53 = .ok (.if_icmp .lt 13, 3) := by decide +kernel
theorem dc_X_has_56 : decode bc_X_has 56 = .ok (.new 30, 3) := by decide +kernel
theorem dc_X_has_59 : decode bc_X_has 59 = .ok (.dup, 1) := by decide +kernel
theorem dc_X_has_60 : decode bc_X_has 60 = .ok (.ldc 79, 2) := by decide +kernel
theorem dc_X_has_62 : decode bc_X_has 62 = .ok (.invokespecial 34, 3) := by decide +kernel
theorem dc_X_has_65 : decode bc_X_has 65 = .ok (.athrow, 1) := by decide +kernel
theorem dc_X_has_66 : decode bc_X_has 66 = .ok (.aload 5, 2) := by decide +kernel
theorem dc_X_has_68 : decode bc_X_has 68 = .ok (.iload 6, 2) := by decide +kernel
theorem dc_X_has_70 : decode bc_X_has 70 = .ok (.iload 8, 2) := by decide +kernel
theorem dc_X_has_72 : decode bc_X_has 72 = .ok (.invokevirtual 81, 3) := by decide +kernel
theorem dc_X_has_75 : decode bc_X_has 75 = .ok (.istore 6, 2) := by decide +kernel
theorem dc_X_has_77 : decode bc_X_has 77 = .ok (.iinc 7 1, 3) := by decide +kernel
theorem dc_X_has_80 : decode bc_X_has 80 = .ok (.goto (-47), 3) := by decide +kernel
theorem dc_X_has_83 : decode bc_X_has 83 = .ok (.aload 5, 2) := by decide +kernel
theorem dc_X_has_85 : decode bc_X_has 85 = .ok (.iload 6, 2) := by decide +kernel
theorem dc_X_has_87 : decode bc_X_has 87 = .ok (.invokevirtual 90, 3) := by decide +kernel
theorem dc_X_has_90 : decode bc_X_has 90 = .ok (.ireturn, 1) := by decide +kernel
theorem dc_X_same_0 : decode bc_X_same 0 = .ok (.aload_n 0, 1) := by decide +kernel
theorem dc_X_same_1 : decode bc_X_same 1 = .ok (.iload_n 1, 1) := by decide +kernel
theorem dc_X_same_2 : decode bc_X_same 2 = .ok (.invokevirtual 48, 3) := by decide +kernel
theorem dc_X_same_5 : decode bc_X_same 5 = .ok (.aload_n 0, 1) := by decide +kernel
theorem dc_X_same_6 : decode bc_X_same 6 = .ok (.iload_n 2, 1) := by decide +kernel
theorem dc_X_same_7 : decode bc_X_same 7 = .ok (.invokevirtual 48, 3) := by decide +kernel
theorem dc_X_same_10 : decode bc_X_same 10 = .ok (.invokevirtual 94, 3) := by decide +kernel
theorem dc_X_same_13 : decode bc_X_same 13 = .ok (.ireturn, 1) := by decide +kernel
theorem dc_X_inside_0 : decode bc_X_inside 0 = .ok (.aload_n 0, 1) := by decide +kernel
theorem dc_X_inside_1 : decode bc_X_inside 1 = .ok (.getfield 18, 3) := by decide +kernel
theorem dc_X_inside_4 : decode bc_X_inside 4 = .ok (.new 57, 3) := by decide +kernel
theorem dc_X_inside_7 : decode bc_X_inside 7 = .ok (.dup, 1) := by decide +kernel
theorem dc_X_inside_8 : decode bc_X_inside 8 = .ok (.iconst 2, 1) := by decide +kernel
theorem dc_X_inside_9 : decode bc_X_inside 9 = .ok (.aload_n 0, 1) := by decide +kernel
theorem dc_X_inside_10 : decode bc_X_inside 10 = .ok (.iload_n 1, 1) := by decide +kernel
theorem dc_X_inside_11 : decode bc_X_inside 11 = .ok (.invokevirtual 48, 3) := by decide +kernel
theorem dc_X_inside_14 : decode bc_X_inside 14 = .ok (.aload_n 0, 1) := by decide +kernel
theorem dc_X_inside_15 : decode bc_X_inside 15 = .ok (.iload_n 2, 1) := by decide +kernel
theorem dc_X_inside_16 : decode bc_X_inside 16 = .ok (.invokevirtual 48, 3) := by decide +kernel
theorem dc_X_inside_19 : decode bc_X_inside 19 = .ok (.invokespecial 59, 3) := by decide +kernel
theorem dc_X_inside_22 : decode bc_X_inside 22 = .ok (.invokevirtual 98, 3) := by decide +kernel
theorem dc_X_inside_25 : decode bc_X_inside 25 = .ok (.aload_n 0, 1) := by decide +kernel
theorem dc_X_inside_26 : decode bc_X_inside 26 = .ok (.getfield 18, 3) := by decide +kernel
theorem dc_X_inside_29 : decode bc_X_inside 29 = .ok (.invokevirtual 102, 3) := by decide +kernel
theorem dc_X_inside_32 : decode bc_X_inside 32 = .ok (.ifCond .ne 7, 3) := by decide +kernel
theorem dc_X_inside_35 : decode bc_X_inside 35 = .ok (.iconst 1, 1) := by decide +kernel
theorem dc_X_inside_36 : decode bc_X_inside 36 = .ok (.goto 4, 3) := by decide +kernel
theorem dc_X_inside_39 : decode bc_X_inside 39 = .ok (.iconst 0, 1) := by decide +kernel
theorem dc_X_inside_40 : decode bc_X_inside 40 = .ok (.ireturn, 1) := by decide +kernel
theorem dc_X_rests_0 : decode bc_X_rests 0 = .ok (.aload_n 0, 1) := by decide +kernel
theorem dc_X_rests_1 : decode bc_X_rests 1 = .ok (.iload_n 1, 1) := by decide +kernel
theorem dc_X_rests_2 : decode bc_X_rests 2 = .ok (.invokevirtual 48, 3) := by decide +kernel
theorem dc_X_rests_5 : decode bc_X_rests 5 = .ok (.getfield 106, 3) := by decide +kernel
theorem dc_X_rests_8 : decode bc_X_rests 8 = .ok (.ireturn, 1) := by decide +kernel
theorem dc_X_words_0 : decode bc_X_words 0 = .ok (.aload_n 0, 1) := by decide +kernel
theorem dc_X_words_1 : decode bc_X_words 1 = .ok (.iload_n 1, 1) := by decide +kernel
theorem dc_X_words_2 : decode bc_X_words 2 = .ok (.invokevirtual 48, 3) := by decide +kernel
theorem dc_X_words_5 : decode bc_X_words 5 = .ok (.astore_n 3, 1) := by decide +kernel
theorem dc_X_words_6 : decode bc_X_words 6 = .ok (.iload_n 2, 1) := by decide +kernel
theorem dc_X_words_7 : decode bc_X_words 7 = .ok (.ifCond .lt 9, 3) := by decide +kernel
theorem dc_X_words_10 : decode bc_X_words 10 = .ok (.iload_n 2, 1) := by decide +kernel
theorem dc_X_words_11 : decode bc_X_words 11 = .ok (.bipush 39, 2) := by decide +kernel
theorem dc_X_words_13 : decode bc_X_words 13 = .ok (.if_icmp .le 13, 3) := by decide +kernel
theorem dc_X_words_16 : decode bc_X_words 16 = .ok (.new 30, 3) := by decide +kernel
theorem dc_X_words_19 : decode bc_X_words 19 = .ok (.dup, 1) := by decide +kernel
theorem dc_X_words_20 : decode bc_X_words 20 = .ok (.ldc 88, 2) := by decide +kernel
theorem dc_X_words_22 : decode bc_X_words 22 = .ok (.invokespecial 34, 3) := by decide +kernel
theorem dc_X_words_25 : decode bc_X_words 25 = .ok (.athrow, 1) := by decide +kernel
theorem dc_X_words_26 : decode bc_X_words 26 = .ok (.aload_n 0, 1) := by decide +kernel
theorem dc_X_words_27 : decode bc_X_words 27 = .ok (.getfield 25, 3) := by decide +kernel
theorem dc_X_words_30 : decode bc_X_words 30 = .ok (.aload_n 3, 1) := by decide +kernel
theorem dc_X_words_31 : decode bc_X_words 31 = .ok (.invokevirtual 109, 3) := by decide +kernel
theorem dc_X_words_34 : decode bc_X_words 34 = .ok (.iconst 0, 1) := by decide +kernel
theorem dc_X_words_35 : decode bc_X_words 35 = .ok (.istore 4, 2) := by decide +kernel
theorem dc_X_words_37 : decode bc_X_words 37 = .ok (.iload 4, 2) := by decide +kernel
theorem dc_X_words_39 : decode bc_X_words 39 = .ok (.iload_n 2, 1) := by decide +kernel
theorem dc_X_words_40 : decode bc_X_words 40 = .ok (.if_icmp .ge 17, 3) := by decide +kernel
theorem dc_X_words_43 : decode bc_X_words 43 = .ok (.aload_n 0, 1) := by decide +kernel
theorem dc_X_words_44 : decode bc_X_words 44 = .ok (.getfield 25, 3) := by decide +kernel
theorem dc_X_words_47 : decode bc_X_words 47 = .ok (.aload_n 3, 1) := by decide +kernel
theorem dc_X_words_48 : decode bc_X_words 48 = .ok (.invokevirtual 111, 3) := by decide +kernel
theorem dc_X_words_51 : decode bc_X_words 51 = .ok (.iinc 4 1, 3) := by decide +kernel
theorem dc_X_words_54 : decode bc_X_words 54 = .ok (.goto (-17), 3) := by decide +kernel
theorem dc_X_words_57 : decode bc_X_words 57 = .ok (.aload_n 0, 1) := by decide +kernel
theorem dc_X_words_58 : decode bc_X_words 58 = .ok (.getfield 25, 3) := by decide +kernel
theorem dc_X_words_61 : decode bc_X_words 61 = .ok (.getfield 114, 3) := by decide +kernel
theorem dc_X_words_64 : decode bc_X_words 64 = .ok (.iconst 0, 1) := by decide +kernel
theorem dc_X_words_65 : decode bc_X_words 65 = .ok (.laload, 1) := by decide +kernel
theorem dc_X_words_66 : decode bc_X_words 66 = .ok (.lreturn, 1) := by decide +kernel
theorem dc_X_shortest_0 : decode bc_X_shortest 0 = .ok (.aload_n 0, 1) := by decide +kernel
theorem dc_X_shortest_1 : decode bc_X_shortest 1 = .ok (.iload_n 1, 1) := by decide +kernel
theorem dc_X_shortest_2 : decode bc_X_shortest 2 = .ok (.invokevirtual 48, 3) := by decide +kernel
theorem dc_X_shortest_5 : decode bc_X_shortest 5 = .ok (.astore_n 2, 1) := by decide +kernel
theorem dc_X_shortest_6 : decode bc_X_shortest 6 = .ok (.aload_n 2, 1) := by decide +kernel
theorem dc_X_shortest_7 : decode bc_X_shortest 7 = .ok (.getfield 118, 3) := by decide +kernel
theorem dc_X_shortest_10 : decode bc_X_shortest 10 = .ok (.iconst 0, 1) := by decide +kernel
theorem dc_X_shortest_11 : decode bc_X_shortest 11 = .ok (.iaload, 1) := by decide +kernel
theorem dc_X_shortest_12 : decode bc_X_shortest 12 = .ok (.iconst (-1), 1) := by decide +kernel
theorem dc_X_shortest_13 : decode bc_X_shortest 13 = .ok (.if_icmp .ne 13, 3) := by decide +kernel
theorem dc_X_shortest_16 : decode bc_X_shortest 16 = .ok (.new 122, 3) := by decide +kernel
theorem dc_X_shortest_19 : decode bc_X_shortest 19 = .ok (.dup, 1) := by decide +kernel
theorem dc_X_shortest_20 : decode bc_X_shortest 20 = .ok (.ldc 124, 2) := by decide +kernel
theorem dc_X_shortest_22 : decode bc_X_shortest 22 = .ok (.invokespecial 126, 3) := by decide +kernel
theorem dc_X_shortest_25 : decode bc_X_shortest 25 = .ok (.athrow, 1) := by decide +kernel
theorem dc_X_shortest_26 : decode bc_X_shortest 26 = .ok (.aload_n 2, 1) := by decide +kernel
theorem dc_X_shortest_27 : decode bc_X_shortest 27 = .ok (.getfield 118, 3) := by decide +kernel
theorem dc_X_shortest_30 : decode bc_X_shortest 30 = .ok (.iconst 0, 1) := by decide +kernel
theorem dc_X_shortest_31 : decode bc_X_shortest 31 = .ok (.iaload, 1) := by decide +kernel
theorem dc_X_shortest_32 : decode bc_X_shortest 32 = .ok (.ireturn, 1) := by decide +kernel
theorem dc_X_letter_0 : decode bc_X_letter 0 = .ok (.aload_n 0, 1) := by decide +kernel
theorem dc_X_letter_1 : decode bc_X_letter 1 = .ok (.iload_n 1, 1) := by decide +kernel
theorem dc_X_letter_2 : decode bc_X_letter 2 = .ok (.invokevirtual 48, 3) := by decide +kernel
theorem dc_X_letter_5 : decode bc_X_letter 5 = .ok (.astore_n 3, 1) := by decide +kernel
theorem dc_X_letter_6 : decode bc_X_letter 6 = .ok (.iload_n 2, 1) := by decide +kernel
theorem dc_X_letter_7 : decode bc_X_letter 7 = .ok (.ifCond .lt 13, 3) := by decide +kernel
theorem dc_X_letter_10 : decode bc_X_letter 10 = .ok (.iload_n 2, 1) := by decide +kernel
theorem dc_X_letter_11 : decode bc_X_letter 11 = .ok (.aload_n 3, 1) := by decide +kernel
theorem dc_X_letter_12 : decode bc_X_letter 12 = .ok (.getfield 118, 3) := by decide +kernel
theorem dc_X_letter_15 : decode bc_X_letter 15 = .ok (.iconst 0, 1) := by decide +kernel
theorem dc_X_letter_16 : decode bc_X_letter 16 = .ok (.iaload, 1) := by decide +kernel
theorem dc_X_letter_17 : decode bc_X_letter 17 = .ok (.if_icmp .lt 13, 3) := by decide +kernel
theorem dc_X_letter_20 : decode bc_X_letter 20 = .ok (.new 122, 3) := by decide +kernel
theorem dc_X_letter_23 : decode bc_X_letter 23 = .ok (.dup, 1) := by decide +kernel
theorem dc_X_letter_24 : decode bc_X_letter 24 = .ok (.ldc 127, 2) := by decide +kernel
theorem dc_X_letter_26 : decode bc_X_letter 26 = .ok (.invokespecial 126, 3) := by decide +kernel
theorem dc_X_letter_29 : decode bc_X_letter 29 = .ok (.athrow, 1) := by decide +kernel
theorem dc_X_letter_30 : decode bc_X_letter 30 = .ok (.iconst 0, 1) := by decide +kernel
theorem dc_X_letter_31 : decode bc_X_letter 31 = .ok (.istore 4, 2) := by decide +kernel
theorem dc_X_letter_33 : decode bc_X_letter 33 = .ok (.iconst 0, 1) := by decide +kernel
theorem dc_X_letter_34 : decode bc_X_letter 34 = .ok (.istore 5, 2) := by decide +kernel
theorem dc_X_letter_36 : decode bc_X_letter 36 = .ok (.iload 5, 2) := by decide +kernel
theorem dc_X_letter_38 : decode bc_X_letter 38 = .ok (.iload_n 2, 1) := by decide +kernel
theorem dc_X_letter_39 : decode bc_X_letter 39 = .ok (.if_icmp .ge 23, 3) := by decide +kernel
theorem dc_X_letter_42 : decode bc_X_letter 42 = .ok (.aload_n 3, 1) := by decide +kernel
theorem dc_X_letter_43 : decode bc_X_letter 43 = .ok (.iload 4, 2) := by decide +kernel
theorem dc_X_letter_45 : decode bc_X_letter 45 = .ok (.aload_n 3, 1) := by decide +kernel
theorem dc_X_letter_46 : decode bc_X_letter 46 = .ok (.iload 4, 2) := by decide +kernel
theorem dc_X_letter_48 : decode bc_X_letter 48 = .ok (.invokevirtual 129, 3) := by decide +kernel
theorem dc_X_letter_51 : decode bc_X_letter 51 = .ok (.invokevirtual 81, 3) := by decide +kernel
theorem dc_X_letter_54 : decode bc_X_letter 54 = .ok (.istore 4, 2) := by decide +kernel
theorem dc_X_letter_56 : decode bc_X_letter 56 = .ok (.iinc 5 1, 3) := by decide +kernel
theorem dc_X_letter_59 : decode bc_X_letter 59 = .ok (.goto (-23), 3) := by decide +kernel
theorem dc_X_letter_62 : decode bc_X_letter 62 = .ok (.aload_n 3, 1) := by decide +kernel
theorem dc_X_letter_63 : decode bc_X_letter 63 = .ok (.iload 4, 2) := by decide +kernel
theorem dc_X_letter_65 : decode bc_X_letter 65 = .ok (.invokevirtual 129, 3) := by decide +kernel
theorem dc_X_letter_68 : decode bc_X_letter 68 = .ok (.ireturn, 1) := by decide +kernel
theorem dc_X_size_0 : decode bc_X_size 0 = .ok (.aload_n 0, 1) := by decide +kernel
theorem dc_X_size_1 : decode bc_X_size 1 = .ok (.iload_n 1, 1) := by decide +kernel
theorem dc_X_size_2 : decode bc_X_size 2 = .ok (.invokevirtual 48, 3) := by decide +kernel
theorem dc_X_size_5 : decode bc_X_size 5 = .ok (.astore_n 2, 1) := by decide +kernel
theorem dc_X_size_6 : decode bc_X_size 6 = .ok (.lconst 0, 1) := by decide +kernel
theorem dc_X_size_7 : decode bc_X_size 7 = .ok (.lstore_n 3, 1) := by decide +kernel
theorem dc_X_size_8 : decode bc_X_size 8 = .ok (.aload_n 0, 1) := by decide +kernel
theorem dc_X_size_9 : decode bc_X_size 9 = .ok (.getfield 25, 3) := by decide +kernel
theorem dc_X_size_12 : decode bc_X_size 12 = .ok (.aload_n 2, 1) := by decide +kernel
theorem dc_X_size_13 : decode bc_X_size 13 = .ok (.invokevirtual 109, 3) := by decide +kernel
theorem dc_X_size_16 : decode bc_X_size 16 = .ok (.iconst 0, 1) := by decide +kernel
theorem dc_X_size_17 : decode bc_X_size 17 = .ok (.istore 5, 2) := by decide +kernel
theorem dc_X_size_19 : decode bc_X_size 19 = .ok (.iload 5, 2) := by decide +kernel
theorem dc_X_size_21 : decode bc_X_size 21 = .ok (.iconst 2, 1) := by decide +kernel
theorem dc_X_size_22 : decode bc_X_size 22 = .ok (.aload_n 2, 1) := by decide +kernel
theorem dc_X_size_23 : decode bc_X_size 23 = .ok (.getfield 106, 3) := by decide +kernel
theorem dc_X_size_26 : decode bc_X_size 26 = .ok (.imul, 1) := by decide +kernel
theorem dc_X_size_27 : decode bc_X_size 27 = .ok (.if_icmp .ge 54, 3) := by decide +kernel
theorem dc_X_size_30 : decode bc_X_size 30 = .ok (.iload 5, 2) := by decide +kernel
theorem dc_X_size_32 : decode bc_X_size 32 = .ok (.aload_n 2, 1) := by decide +kernel
theorem dc_X_size_33 : decode bc_X_size 33 = .ok (.getfield 106, 3) := by decide +kernel
theorem dc_X_size_36 : decode bc_X_size 36 = .ok (.if_icmp .lt 19, 3) := by decide +kernel
theorem dc_X_size_39 : decode bc_X_size 39 = .ok (.aload_n 0, 1) := by decide +kernel
theorem dc_X_size_40 : decode bc_X_size 40 = .ok (.getfield 25, 3) := by decide +kernel
theorem dc_X_size_43 : decode bc_X_size 43 = .ok (.getfield 114, 3) := by decide +kernel
theorem dc_X_size_46 : decode bc_X_size 46 = .ok (.iconst 0, 1) := by decide +kernel
theorem dc_X_size_47 : decode bc_X_size 47 = .ok (.laload, 1) := by decide +kernel
theorem dc_X_size_48 : decode bc_X_size 48 = .ok (.lconst 0, 1) := by decide +kernel
theorem dc_X_size_49 : decode bc_X_size 49 = .ok (.lcmp, 1) := by decide +kernel
theorem dc_X_size_50 : decode bc_X_size 50 = .ok (.ifCond .le 5, 3) := by decide +kernel
theorem dc_X_size_53 : decode bc_X_size 53 = .ok (.iconst (-1), 1) := by decide +kernel
theorem dc_X_size_54 : decode bc_X_size 54 = .ok (.ireturn, 1) := by decide +kernel
theorem dc_X_size_55 : decode bc_X_size 55 = .ok (.lload_n 3, 1) := by decide +kernel
theorem dc_X_size_56 : decode bc_X_size 56 = .ok (.aload_n 0, 1) := by decide +kernel
theorem dc_X_size_57 : decode bc_X_size 57 = .ok (.getfield 25, 3) := by decide +kernel
theorem dc_X_size_60 : decode bc_X_size 60 = .ok (.getfield 114, 3) := by decide +kernel
theorem dc_X_size_63 : decode bc_X_size 63 = .ok (.iconst 0, 1) := by decide +kernel
theorem dc_X_size_64 : decode bc_X_size 64 = .ok (.laload, 1) := by decide +kernel
theorem dc_X_size_65 : decode bc_X_size 65 = .ok (.ladd, 1) := by decide +kernel
theorem dc_X_size_66 : decode bc_X_size 66 = .ok (.lstore_n 3, 1) := by decide +kernel
theorem dc_X_size_67 : decode bc_X_size 67 = .ok (.aload_n 0, 1) := by decide +kernel
theorem dc_X_size_68 : decode bc_X_size 68 = .ok (.getfield 25, 3) := by decide +kernel
theorem dc_X_size_71 : decode bc_X_size 71 = .ok (.aload_n 2, 1) := by decide +kernel
theorem dc_X_size_72 : decode bc_X_size 72 = .ok (.invokevirtual 111, 3) := by decide +kernel
theorem dc_X_size_75 : decode bc_X_size 75 = .ok (.iinc 5 1, 3) := by decide +kernel
theorem dc_X_size_78 : decode bc_X_size 78 = .ok (.goto (-59), 3) := by decide +kernel
theorem dc_X_size_81 : decode bc_X_size 81 = .ok (.lload_n 3, 1) := by decide +kernel
theorem dc_X_size_82 : decode bc_X_size 82 = .ok (.ldc2_w 133, 3) := by decide +kernel
theorem dc_X_size_85 : decode bc_X_size 85 = .ok (.lcmp, 1) := by decide +kernel
theorem dc_X_size_86 : decode bc_X_size 86 = .ok (.ifCond .le 8, 3) := by decide +kernel
theorem dc_X_size_89 : decode bc_X_size 89 = .ok (.bipush (-2), 2) := by decide +kernel
theorem dc_X_size_91 : decode bc_X_size 91 = .ok (.goto 5, 3) := by decide +kernel
theorem dc_X_size_94 : decode bc_X_size 94 = .ok (.lload_n 3, 1) := by decide +kernel
theorem dc_X_size_95 : decode bc_X_size 95 = .ok (.l2i, 1) := by decide +kernel
theorem dc_X_size_96 : decode bc_X_size 96 = .ok (.ireturn, 1) := by decide +kernel
theorem dc_X_count_0 : decode bc_X_count 0 = .ok (.aload_n 0, 1) := by decide +kernel
theorem dc_X_count_1 : decode bc_X_count 1 = .ok (.getfield 135, 3) := by decide +kernel
theorem dc_X_count_4 : decode bc_X_count 4 = .ok (.ireturn, 1) := by decide +kernel
theorem dc_X_tableOf_0 : decode bc_X_tableOf 0 = .ok (.iload_n 1, 1) := by decide +kernel
theorem dc_X_tableOf_1 : decode bc_X_tableOf 1 = .ok (.ifCond .lt 11, 3) := by decide +kernel
theorem dc_X_tableOf_4 : decode bc_X_tableOf 4 = .ok (.iload_n 1, 1) := by decide +kernel
theorem dc_X_tableOf_5 : decode bc_X_tableOf 5 = .ok (.aload_n 0, 1) := by decide +kernel
theorem dc_X_tableOf_6 : decode bc_X_tableOf 6 = .ok (.getfield 135, 3) := by decide +kernel
theorem dc_X_tableOf_9 : decode bc_X_tableOf 9 = .ok (.if_icmp .lt 13, 3) := by decide +kernel
theorem dc_X_tableOf_12 : decode bc_X_tableOf 12 = .ok (.new 30, 3) := by decide +kernel
theorem dc_X_tableOf_15 : decode bc_X_tableOf 15 = .ok (.dup, 1) := by decide +kernel
theorem dc_X_tableOf_16 : decode bc_X_tableOf 16 = .ok (.ldc 138, 2) := by decide +kernel
theorem dc_X_tableOf_18 : decode bc_X_tableOf 18 = .ok (.invokespecial 34, 3) := by decide +kernel
theorem dc_X_tableOf_21 : decode bc_X_tableOf 21 = .ok (.athrow, 1) := by decide +kernel
theorem dc_X_tableOf_22 : decode bc_X_tableOf 22 = .ok (.aload_n 0, 1) := by decide +kernel
theorem dc_X_tableOf_23 : decode bc_X_tableOf 23 = .ok (.getfield 11, 3) := by decide +kernel
theorem dc_X_tableOf_26 : decode bc_X_tableOf 26 = .ok (.iload_n 1, 1) := by decide +kernel
theorem dc_X_tableOf_27 : decode bc_X_tableOf 27 = .ok (.aaload, 1) := by decide +kernel
theorem dc_X_tableOf_28 : decode bc_X_tableOf 28 = .ok (.areturn, 1) := by decide +kernel
theorem dc_X_keep_0 : decode bc_X_keep 0 = .ok (.aload_n 0, 1) := by decide +kernel
theorem dc_X_keep_1 : decode bc_X_keep 1 = .ok (.getfield 135, 3) := by decide +kernel
theorem dc_X_keep_4 : decode bc_X_keep 4 = .ok (.bipush 80, 2) := by decide +kernel
theorem dc_X_keep_6 : decode bc_X_keep 6 = .ok (.if_icmp .lt 13, 3) := by decide +kernel
theorem dc_X_keep_9 : decode bc_X_keep 9 = .ok (.new 140, 3) := by decide +kernel
theorem dc_X_keep_12 : decode bc_X_keep 12 = .ok (.dup, 1) := by decide +kernel
theorem dc_X_keep_13 : decode bc_X_keep 13 = .ok (.ldc 142, 2) := by decide +kernel
theorem dc_X_keep_15 : decode bc_X_keep 15 = .ok (.invokespecial 144, 3) := by decide +kernel
theorem dc_X_keep_18 : decode bc_X_keep 18 = .ok (.athrow, 1) := by decide +kernel
theorem dc_X_keep_19 : decode bc_X_keep 19 = .ok (.aload_n 0, 1) := by decide +kernel
theorem dc_X_keep_20 : decode bc_X_keep 20 = .ok (.getfield 18, 3) := by decide +kernel
theorem dc_X_keep_23 : decode bc_X_keep 23 = .ok (.aload_n 1, 1) := by decide +kernel
theorem dc_X_keep_24 : decode bc_X_keep 24 = .ok (.invokevirtual 98, 3) := by decide +kernel
theorem dc_X_keep_27 : decode bc_X_keep 27 = .ok (.iconst 1, 1) := by decide +kernel
theorem dc_X_keep_28 : decode bc_X_keep 28 = .ok (.istore_n 2, 1) := by decide +kernel
theorem dc_X_keep_29 : decode bc_X_keep 29 = .ok (.iconst 0, 1) := by decide +kernel
theorem dc_X_keep_30 : decode bc_X_keep 30 = .ok (.istore_n 3, 1) := by decide +kernel
theorem dc_X_keep_31 : decode bc_X_keep 31 = .ok (.iload_n 3, 1) := by decide +kernel
theorem dc_X_keep_32 : decode bc_X_keep 32 = .ok (.bipush 10, 2) := by decide +kernel
theorem dc_X_keep_34 : decode bc_X_keep 34 = .ok (.if_icmp .ge 22, 3) := by decide +kernel
theorem dc_X_keep_37 : decode bc_X_keep 37 = .ok (.iload_n 2, 1) := by decide +kernel
theorem dc_X_keep_38 : decode bc_X_keep 38 = .ok (.iconst 1, 1) := by decide +kernel
theorem dc_X_keep_39 : decode bc_X_keep 39 = .ok (.if_icmp .ne 17, 3) := by decide +kernel
theorem dc_X_keep_42 : decode bc_X_keep 42 = .ok (.aload_n 0, 1) := by decide +kernel
theorem dc_X_keep_43 : decode bc_X_keep 43 = .ok (.getfield 18, 3) := by decide +kernel
theorem dc_X_keep_46 : decode bc_X_keep 46 = .ok (.invokevirtual 145, 3) := by decide +kernel
theorem dc_X_keep_49 : decode bc_X_keep 49 = .ok (.istore_n 2, 1) := by decide +kernel
theorem dc_X_keep_50 : decode bc_X_keep 50 = .ok (.iinc 3 1, 3) := by decide +kernel
theorem dc_X_keep_53 : decode bc_X_keep 53 = .ok (.goto (-22), 3) := by decide +kernel
theorem dc_X_keep_56 : decode bc_X_keep 56 = .ok (.iload_n 2, 1) := by decide +kernel
theorem dc_X_keep_57 : decode bc_X_keep 57 = .ok (.ifCond .eq 13, 3) := by decide +kernel
theorem dc_X_keep_60 : decode bc_X_keep 60 = .ok (.new 140, 3) := by decide +kernel
theorem dc_X_keep_63 : decode bc_X_keep 63 = .ok (.dup, 1) := by decide +kernel
theorem dc_X_keep_64 : decode bc_X_keep 64 = .ok (.ldc 149, 2) := by decide +kernel
theorem dc_X_keep_66 : decode bc_X_keep 66 = .ok (.invokespecial 144, 3) := by decide +kernel
theorem dc_X_keep_69 : decode bc_X_keep 69 = .ok (.athrow, 1) := by decide +kernel
theorem dc_X_keep_70 : decode bc_X_keep 70 = .ok (.aload_n 0, 1) := by decide +kernel
theorem dc_X_keep_71 : decode bc_X_keep 71 = .ok (.getfield 18, 3) := by decide +kernel
theorem dc_X_keep_74 : decode bc_X_keep 74 = .ok (.aload_n 0, 1) := by decide +kernel
theorem dc_X_keep_75 : decode bc_X_keep 75 = .ok (.getfield 11, 3) := by decide +kernel
theorem dc_X_keep_78 : decode bc_X_keep 78 = .ok (.aload_n 0, 1) := by decide +kernel
theorem dc_X_keep_79 : decode bc_X_keep 79 = .ok (.getfield 135, 3) := by decide +kernel
theorem dc_X_keep_82 : decode bc_X_keep 82 = .ok (.aaload, 1) := by decide +kernel
theorem dc_X_keep_83 : decode bc_X_keep 83 = .ok (.invokevirtual 151, 3) := by decide +kernel
theorem dc_X_keep_86 : decode bc_X_keep 86 = .ok (.aload_n 0, 1) := by decide +kernel
theorem dc_X_keep_87 : decode bc_X_keep 87 = .ok (.dup, 1) := by decide +kernel
theorem dc_X_keep_88 : decode bc_X_keep 88 = .ok (.getfield 135, 3) := by decide +kernel
theorem dc_X_keep_91 : decode bc_X_keep 91 = .ok (.iconst 1, 1) := by decide +kernel
theorem dc_X_keep_92 : decode bc_X_keep 92 = .ok (.iadd, 1) := by decide +kernel
theorem dc_X_keep_93 : decode bc_X_keep 93 = .ok (.putfield 135, 3) := by decide +kernel
theorem dc_X_keep_96 : decode bc_X_keep 96 = .ok (.aload_n 0, 1) := by decide +kernel
theorem dc_X_keep_97 : decode bc_X_keep 97 = .ok (.getfield 135, 3) := by decide +kernel
theorem dc_X_keep_100 : decode bc_X_keep 100 = .ok (.iconst 1, 1) := by decide +kernel
theorem dc_X_keep_101 : decode bc_X_keep 101 = .ok (.isub, 1) := by decide +kernel
theorem dc_X_keep_102 : decode bc_X_keep 102 = .ok (.ireturn, 1) := by decide +kernel
theorem dc_K_init_0 : decode bc_K_init 0 = .ok (.aload_n 0, 1) := by decide +kernel
theorem dc_K_init_1 : decode bc_K_init 1 = .ok (.invokespecial 1, 3) := by decide +kernel
theorem dc_K_init_4 : decode bc_K_init 4 = .ok (.aload_n 0, 1) := by decide +kernel
theorem dc_K_init_5 : decode bc_K_init 5 = .ok (.aload_n 1, 1) := by decide +kernel
theorem dc_K_init_6 : decode bc_K_init 6 = .ok (.putfield 7, 3) := by decide +kernel
theorem dc_K_init_9 : decode bc_K_init 9 = .ok (.return_, 1) := by decide +kernel
theorem dc_K_start_0 : decode bc_K_start 0 = .ok (.aload_n 0, 1) := by decide +kernel
theorem dc_K_start_1 : decode bc_K_start 1 = .ok (.getfield 7, 3) := by decide +kernel
theorem dc_K_start_4 : decode bc_K_start 4 = .ok (.getfield 13, 3) := by decide +kernel
theorem dc_K_start_7 : decode bc_K_start 7 = .ok (.ireturn, 1) := by decide +kernel
theorem dc_K_step_0 : decode bc_K_step 0 = .ok (.aload_n 0, 1) := by decide +kernel
theorem dc_K_step_1 : decode bc_K_step 1 = .ok (.getfield 7, 3) := by decide +kernel
theorem dc_K_step_4 : decode bc_K_step 4 = .ok (.iload_n 1, 1) := by decide +kernel
theorem dc_K_step_5 : decode bc_K_step 5 = .ok (.iload_n 2, 1) := by decide +kernel
theorem dc_K_step_6 : decode bc_K_step 6 = .ok (.invokevirtual 19, 3) := by decide +kernel
theorem dc_K_step_9 : decode bc_K_step 9 = .ok (.ireturn, 1) := by decide +kernel
theorem dc_K_accepts_0 : decode bc_K_accepts 0 = .ok (.iload_n 1, 1) := by decide +kernel
theorem dc_K_accepts_1 : decode bc_K_accepts 1 = .ok (.iconst 1, 1) := by decide +kernel
theorem dc_K_accepts_2 : decode bc_K_accepts 2 = .ok (.iand, 1) := by decide +kernel
theorem dc_K_accepts_3 : decode bc_K_accepts 3 = .ok (.ifCond .eq 7, 3) := by decide +kernel
theorem dc_K_accepts_6 : decode bc_K_accepts 6 = .ok (.iconst 1, 1) := by decide +kernel
theorem dc_K_accepts_7 : decode bc_K_accepts 7 = .ok (.goto 4, 3) := by decide +kernel
theorem dc_K_accepts_10 : decode bc_K_accepts 10 = .ok (.iconst 0, 1) := by decide +kernel
theorem dc_K_accepts_11 : decode bc_K_accepts 11 = .ok (.ireturn, 1) := by decide +kernel
theorem dc_B_init_0 : decode bc_B_init 0 = .ok (.aload_n 0, 1) := by decide +kernel
theorem dc_B_init_1 : decode bc_B_init 1 = .ok (.invokespecial 3, 3) := by decide +kernel
theorem dc_B_init_4 : decode bc_B_init 4 = .ok (.aload_n 0, 1) := by decide +kernel
theorem dc_B_init_5 : decode bc_B_init 5 = .ok (.iload_n 1, 1) := by decide +kernel
theorem dc_B_init_6 : decode bc_B_init 6 = .ok (.putfield 9, 3) := by decide +kernel
theorem dc_B_init_9 : decode bc_B_init 9 = .ok (.aload_n 0, 1) := by decide +kernel
theorem dc_B_init_10 : decode bc_B_init 10 = .ok (.aload_n 2, 1) := by decide +kernel
theorem dc_B_init_11 : decode bc_B_init 11 = .ok (.putfield 15, 3) := by decide +kernel
theorem dc_B_init_14 : decode bc_B_init 14 = .ok (.aload_n 0, 1) := by decide +kernel
theorem dc_B_init_15 : decode bc_B_init 15 = .ok (.aload_n 3, 1) := by decide +kernel
theorem dc_B_init_16 : decode bc_B_init 16 = .ok (.putfield 19, 3) := by decide +kernel
theorem dc_B_init_19 : decode bc_B_init 19 = .ok (.return_, 1) := by decide +kernel
theorem dc_B_start_0 : decode bc_B_start 0 = .ok (.iconst 0, 1) := by decide +kernel
theorem dc_B_start_1 : decode bc_B_start 1 = .ok (.ireturn, 1) := by decide +kernel
theorem dc_B_step_0 : decode bc_B_step 0 = .ok (.aload_n 0, 1) := by decide +kernel
theorem dc_B_step_1 : decode bc_B_step 1 = .ok (.getfield 15, 3) := by decide +kernel
theorem dc_B_step_4 : decode bc_B_step 4 = .ok (.iload_n 1, 1) := by decide +kernel
theorem dc_B_step_5 : decode bc_B_step 5 = .ok (.bipush 10, 2) := by decide +kernel
theorem dc_B_step_7 : decode bc_B_step 7 = .ok (.idiv, 1) := by decide +kernel
theorem dc_B_step_8 : decode bc_B_step 8 = .ok (.iload_n 2, 1) := by decide +kernel
theorem dc_B_step_9 : decode bc_B_step 9 = .ok (.invokevirtual 22, 3) := by decide +kernel
theorem dc_B_step_12 : decode bc_B_step 12 = .ok (.istore_n 3, 1) := by decide +kernel
theorem dc_B_step_13 : decode bc_B_step 13 = .ok (.iload_n 3, 1) := by decide +kernel
theorem dc_B_step_14 : decode bc_B_step 14 = .ok (.bipush 10, 2) := by decide +kernel
theorem dc_B_step_16 : decode bc_B_step 16 = .ok (.imul, 1) := by decide +kernel
theorem dc_B_step_17 : decode bc_B_step 17 = .ok (.aload_n 0, 1) := by decide +kernel
theorem dc_B_step_18 : decode bc_B_step 18 = .ok (.getfield 19, 3) := by decide +kernel
theorem dc_B_step_21 : decode bc_B_step 21 = .ok (.iload_n 1, 1) := by decide +kernel
theorem dc_B_step_22 : decode bc_B_step 22 = .ok (.bipush 10, 2) := by decide +kernel
theorem dc_B_step_24 : decode bc_B_step 24 = .ok (.irem, 1) := by decide +kernel
theorem dc_B_step_25 : decode bc_B_step 25 = .ok (.iload_n 2, 1) := by decide +kernel
theorem dc_B_step_26 : decode bc_B_step 26 = .ok (.invokevirtual 22, 3) := by decide +kernel
theorem dc_B_step_29 : decode bc_B_step 29 = .ok (.iadd, 1) := by decide +kernel
theorem dc_B_step_30 : decode bc_B_step 30 = .ok (.ireturn, 1) := by decide +kernel
theorem dc_B_accepts_0 : decode bc_B_accepts 0 = .ok (.aload_n 0, 1) := by decide +kernel
theorem dc_B_accepts_1 : decode bc_B_accepts 1 = .ok (.getfield 15, 3) := by decide +kernel
theorem dc_B_accepts_4 : decode bc_B_accepts 4 = .ok (.iload_n 1, 1) := by decide +kernel
theorem dc_B_accepts_5 : decode bc_B_accepts 5 = .ok (.bipush 10, 2) := by decide +kernel
theorem dc_B_accepts_7 : decode bc_B_accepts 7 = .ok (.idiv, 1) := by decide +kernel
theorem dc_B_accepts_8 : decode bc_B_accepts 8 = .ok (.invokevirtual 28, 3) := by decide +kernel
theorem dc_B_accepts_11 : decode bc_B_accepts 11 = .ok (.istore_n 2, 1) := by decide +kernel
theorem dc_B_accepts_12 : decode bc_B_accepts 12 = .ok (.aload_n 0, 1) := by decide +kernel
theorem dc_B_accepts_13 : decode bc_B_accepts 13 = .ok (.getfield 19, 3) := by decide +kernel
theorem dc_B_accepts_16 : decode bc_B_accepts 16 = .ok (.iload_n 1, 1) := by decide +kernel
theorem dc_B_accepts_17 : decode bc_B_accepts 17 = .ok (.bipush 10, 2) := by decide +kernel
theorem dc_B_accepts_19 : decode bc_B_accepts 19 = .ok (.irem, 1) := by decide +kernel
theorem dc_B_accepts_20 : decode bc_B_accepts 20 = .ok (.invokevirtual 28, 3) := by decide +kernel
theorem dc_B_accepts_23 : decode bc_B_accepts 23 = .ok (.istore_n 3, 1) := by decide +kernel
theorem dc_B_accepts_24 : decode bc_B_accepts 24 = .ok (.aload_n 0, 1) := by decide +kernel
theorem dc_B_accepts_25 : decode bc_B_accepts 25 = .ok (.getfield 9, 3) := by decide +kernel
theorem dc_B_accepts_28 : decode bc_B_accepts 28 = .ok (.tableswitch 70 0 2 #[28, 42, 56], 28) := by decide +kernel
theorem dc_B_accepts_56 : decode bc_B_accepts 56 = .ok (.iload_n 2, 1) := by decide +kernel
theorem dc_B_accepts_57 : decode bc_B_accepts 57 = .ok (.ifCond .ne 7, 3) := by decide +kernel
theorem dc_B_accepts_60 : decode bc_B_accepts 60 = .ok (.iload_n 3, 1) := by decide +kernel
theorem dc_B_accepts_61 : decode bc_B_accepts 61 = .ok (.ifCond .eq 7, 3) := by decide +kernel
theorem dc_B_accepts_64 : decode bc_B_accepts 64 = .ok (.iconst 1, 1) := by decide +kernel
theorem dc_B_accepts_65 : decode bc_B_accepts 65 = .ok (.goto 4, 3) := by decide +kernel
theorem dc_B_accepts_68 : decode bc_B_accepts 68 = .ok (.iconst 0, 1) := by decide +kernel
theorem dc_B_accepts_69 : decode bc_B_accepts 69 = .ok (.ireturn, 1) := by decide +kernel
theorem dc_B_accepts_70 : decode bc_B_accepts 70 = .ok (.iload_n 2, 1) := by decide +kernel
theorem dc_B_accepts_71 : decode bc_B_accepts 71 = .ok (.ifCond .eq 11, 3) := by decide +kernel
theorem dc_B_accepts_74 : decode bc_B_accepts 74 = .ok (.iload_n 3, 1) := by decide +kernel
theorem dc_B_accepts_75 : decode bc_B_accepts 75 = .ok (.ifCond .eq 7, 3) := by decide +kernel
theorem dc_B_accepts_78 : decode bc_B_accepts 78 = .ok (.iconst 1, 1) := by decide +kernel
theorem dc_B_accepts_79 : decode bc_B_accepts 79 = .ok (.goto 4, 3) := by decide +kernel
theorem dc_B_accepts_82 : decode bc_B_accepts 82 = .ok (.iconst 0, 1) := by decide +kernel
theorem dc_B_accepts_83 : decode bc_B_accepts 83 = .ok (.ireturn, 1) := by decide +kernel
theorem dc_B_accepts_84 : decode bc_B_accepts 84 = .ok (.iload_n 2, 1) := by decide +kernel
theorem dc_B_accepts_85 : decode bc_B_accepts 85 = .ok (.ifCond .eq 11, 3) := by decide +kernel
theorem dc_B_accepts_88 : decode bc_B_accepts 88 = .ok (.iload_n 3, 1) := by decide +kernel
theorem dc_B_accepts_89 : decode bc_B_accepts 89 = .ok (.ifCond .ne 7, 3) := by decide +kernel
theorem dc_B_accepts_92 : decode bc_B_accepts 92 = .ok (.iconst 1, 1) := by decide +kernel
theorem dc_B_accepts_93 : decode bc_B_accepts 93 = .ok (.goto 4, 3) := by decide +kernel
theorem dc_B_accepts_96 : decode bc_B_accepts 96 = .ok (.iconst 0, 1) := by decide +kernel
theorem dc_B_accepts_97 : decode bc_B_accepts 97 = .ok (.ireturn, 1) := by decide +kernel
theorem dc_B_accepts_98 : decode bc_B_accepts 98 = .ok (.iload_n 2, 1) := by decide +kernel
theorem dc_B_accepts_99 : decode bc_B_accepts 99 = .ok (.iload_n 3, 1) := by decide +kernel
theorem dc_B_accepts_100 : decode bc_B_accepts 100 = .ok (.if_icmp .eq 7, 3) := by decide +kernel
theorem dc_B_accepts_103 : decode bc_B_accepts 103 = .ok (.iconst 1, 1) := by decide +kernel
theorem dc_B_accepts_104 : decode bc_B_accepts 104 = .ok (.goto 4, 3) := by decide +kernel
theorem dc_B_accepts_107 : decode bc_B_accepts 107 = .ok (.iconst 0, 1) := by decide +kernel
theorem dc_B_accepts_108 : decode bc_B_accepts 108 = .ok (.ireturn, 1) := by decide +kernel
theorem dc_A_init_0 : decode bc_A_init 0 = .ok (.aload_n 0, 1) := by decide +kernel
theorem dc_A_init_1 : decode bc_A_init 1 = .ok (.invokespecial 1, 3) := by decide +kernel
theorem dc_A_init_4 : decode bc_A_init 4 = .ok (.return_, 1) := by decide +kernel
theorem dc_N_init_0 : decode bc_N_init 0 = .ok (.aload_n 0, 1) := by decide +kernel
theorem dc_N_init_1 : decode bc_N_init 1 = .ok (.invokespecial 3, 3) := by decide +kernel
theorem dc_N_init_4 : decode bc_N_init 4 = .ok (.aload_n 0, 1) := by decide +kernel
theorem dc_N_init_5 : decode bc_N_init 5 = .ok (.aload_n 1, 1) := by decide +kernel
theorem dc_N_init_6 : decode bc_N_init 6 = .ok (.putfield 9, 3) := by decide +kernel
theorem dc_N_init_9 : decode bc_N_init 9 = .ok (.return_, 1) := by decide +kernel
theorem dc_N_start_0 : decode bc_N_start 0 = .ok (.sipush 1024, 3) := by decide +kernel
theorem dc_N_start_3 : decode bc_N_start 3 = .ok (.ireturn, 1) := by decide +kernel
theorem dc_N_step_0 : decode bc_N_step 0 = .ok (.aload_n 0, 1) := by decide +kernel
theorem dc_N_step_1 : decode bc_N_step 1 = .ok (.getfield 9, 3) := by decide +kernel
theorem dc_N_step_4 : decode bc_N_step 4 = .ok (.iload_n 1, 1) := by decide +kernel
theorem dc_N_step_5 : decode bc_N_step 5 = .ok (.sipush 1024, 3) := by decide +kernel
theorem dc_N_step_8 : decode bc_N_step 8 = .ok (.if_icmp .ne 7, 3) := by decide +kernel
theorem dc_N_step_11 : decode bc_N_step 11 = .ok (.iconst 1, 1) := by decide +kernel
theorem dc_N_step_12 : decode bc_N_step 12 = .ok (.goto 4, 3) := by decide +kernel
theorem dc_N_step_15 : decode bc_N_step 15 = .ok (.iload_n 1, 1) := by decide +kernel
theorem dc_N_step_16 : decode bc_N_step 16 = .ok (.iload_n 2, 1) := by decide +kernel
theorem dc_N_step_17 : decode bc_N_step 17 = .ok (.invokevirtual 15, 3) := by decide +kernel
theorem dc_N_step_20 : decode bc_N_step 20 = .ok (.istore_n 3, 1) := by decide +kernel
theorem dc_N_step_21 : decode bc_N_step 21 = .ok (.iload_n 3, 1) := by decide +kernel
theorem dc_N_step_22 : decode bc_N_step 22 = .ok (.aload_n 0, 1) := by decide +kernel
theorem dc_N_step_23 : decode bc_N_step 23 = .ok (.getfield 9, 3) := by decide +kernel
theorem dc_N_step_26 : decode bc_N_step 26 = .ok (.getfield 21, 3) := by decide +kernel
theorem dc_N_step_29 : decode bc_N_step 29 = .ok (.iand, 1) := by decide +kernel
theorem dc_N_step_30 : decode bc_N_step 30 = .ok (.ifCond .eq 9, 3) := by decide +kernel
theorem dc_N_step_33 : decode bc_N_step 33 = .ok (.iload_n 3, 1) := by decide +kernel
theorem dc_N_step_34 : decode bc_N_step 34 = .ok (.iconst 1, 1) := by decide +kernel
theorem dc_N_step_35 : decode bc_N_step 35 = .ok (.ior, 1) := by decide +kernel
theorem dc_N_step_36 : decode bc_N_step 36 = .ok (.goto 4, 3) := by decide +kernel
theorem dc_N_step_39 : decode bc_N_step 39 = .ok (.iload_n 3, 1) := by decide +kernel
theorem dc_N_step_40 : decode bc_N_step 40 = .ok (.ireturn, 1) := by decide +kernel
theorem dc_N_accepts_0 : decode bc_N_accepts 0 = .ok (.iload_n 1, 1) := by decide +kernel
theorem dc_N_accepts_1 : decode bc_N_accepts 1 = .ok (.sipush 1024, 3) := by decide +kernel
theorem dc_N_accepts_4 : decode bc_N_accepts 4 = .ok (.if_icmp .eq 15, 3) := by decide +kernel
theorem dc_N_accepts_7 : decode bc_N_accepts 7 = .ok (.iload_n 1, 1) := by decide +kernel
theorem dc_N_accepts_8 : decode bc_N_accepts 8 = .ok (.aload_n 0, 1) := by decide +kernel
theorem dc_N_accepts_9 : decode bc_N_accepts 9 = .ok (.getfield 9, 3) := by decide +kernel
theorem dc_N_accepts_12 : decode bc_N_accepts 12 = .ok (.getfield 21, 3) := by decide +kernel
theorem dc_N_accepts_15 : decode bc_N_accepts 15 = .ok (.iand, 1) := by decide +kernel
theorem dc_N_accepts_16 : decode bc_N_accepts 16 = .ok (.ifCond .eq 7, 3) := by decide +kernel
theorem dc_N_accepts_19 : decode bc_N_accepts 19 = .ok (.iconst 1, 1) := by decide +kernel
theorem dc_N_accepts_20 : decode bc_N_accepts 20 = .ok (.goto 4, 3) := by decide +kernel
theorem dc_N_accepts_23 : decode bc_N_accepts 23 = .ok (.iconst 0, 1) := by decide +kernel
theorem dc_N_accepts_24 : decode bc_N_accepts 24 = .ok (.ireturn, 1) := by decide +kernel
theorem dc_O_init_0 : decode bc_O_init 0 = .ok (.aload_n 0, 1) := by decide +kernel
theorem dc_O_init_1 : decode bc_O_init 1 = .ok (.invokespecial 1, 3) := by decide +kernel
theorem dc_O_init_4 : decode bc_O_init 4 = .ok (.aload_n 0, 1) := by decide +kernel
theorem dc_O_init_5 : decode bc_O_init 5 = .ok (.iload_n 1, 1) := by decide +kernel
theorem dc_O_init_6 : decode bc_O_init 6 = .ok (.putfield 7, 3) := by decide +kernel
theorem dc_O_init_9 : decode bc_O_init 9 = .ok (.aload_n 0, 1) := by decide +kernel
theorem dc_O_init_10 : decode bc_O_init 10 = .ok (.iload_n 2, 1) := by decide +kernel
theorem dc_O_init_11 : decode bc_O_init 11 = .ok (.putfield 13, 3) := by decide +kernel
theorem dc_O_init_14 : decode bc_O_init 14 = .ok (.return_, 1) := by decide +kernel
theorem dc_O_start_0 : decode bc_O_start 0 = .ok (.aload_n 0, 1) := by decide +kernel
theorem dc_O_start_1 : decode bc_O_start 1 = .ok (.getfield 13, 3) := by decide +kernel
theorem dc_O_start_4 : decode bc_O_start 4 = .ok (.ireturn, 1) := by decide +kernel
theorem dc_O_step_0 : decode bc_O_step 0 = .ok (.iload_n 1, 1) := by decide +kernel
theorem dc_O_step_1 : decode bc_O_step 1 = .ok (.ifCond .ne 18, 3) := by decide +kernel
theorem dc_O_step_4 : decode bc_O_step 4 = .ok (.aload_n 0, 1) := by decide +kernel
theorem dc_O_step_5 : decode bc_O_step 5 = .ok (.getfield 7, 3) := by decide +kernel
theorem dc_O_step_8 : decode bc_O_step 8 = .ok (.iload_n 2, 1) := by decide +kernel
theorem dc_O_step_9 : decode bc_O_step 9 = .ok (.ishr, 1) := by decide +kernel
theorem dc_O_step_10 : decode bc_O_step 10 = .ok (.iconst 1, 1) := by decide +kernel
theorem dc_O_step_11 : decode bc_O_step 11 = .ok (.iand, 1) := by decide +kernel
theorem dc_O_step_12 : decode bc_O_step 12 = .ok (.ifCond .eq 7, 3) := by decide +kernel
theorem dc_O_step_15 : decode bc_O_step 15 = .ok (.iconst 1, 1) := by decide +kernel
theorem dc_O_step_16 : decode bc_O_step 16 = .ok (.goto 4, 3) := by decide +kernel
theorem dc_O_step_19 : decode bc_O_step 19 = .ok (.iconst 2, 1) := by decide +kernel
theorem dc_O_step_20 : decode bc_O_step 20 = .ok (.ireturn, 1) := by decide +kernel
theorem dc_O_accepts_0 : decode bc_O_accepts 0 = .ok (.iload_n 1, 1) := by decide +kernel
theorem dc_O_accepts_1 : decode bc_O_accepts 1 = .ok (.iconst 1, 1) := by decide +kernel
theorem dc_O_accepts_2 : decode bc_O_accepts 2 = .ok (.if_icmp .ne 7, 3) := by decide +kernel
theorem dc_O_accepts_5 : decode bc_O_accepts 5 = .ok (.iconst 1, 1) := by decide +kernel
theorem dc_O_accepts_6 : decode bc_O_accepts 6 = .ok (.goto 4, 3) := by decide +kernel
theorem dc_O_accepts_9 : decode bc_O_accepts 9 = .ok (.iconst 0, 1) := by decide +kernel
theorem dc_O_accepts_10 : decode bc_O_accepts 10 = .ok (.ireturn, 1) := by decide +kernel
theorem dc_R_init_0 : decode bc_R_init 0 = .ok (.aload_n 0, 1) := by decide +kernel
theorem dc_R_init_1 : decode bc_R_init 1 = .ok (.invokespecial 1, 3) := by decide +kernel
theorem dc_R_init_4 : decode bc_R_init 4 = .ok (.aload_n 0, 1) := by decide +kernel
theorem dc_R_init_5 : decode bc_R_init 5 = .ok (.aload_n 1, 1) := by decide +kernel
theorem dc_R_init_6 : decode bc_R_init 6 = .ok (.putfield 7, 3) := by decide +kernel
theorem dc_R_init_9 : decode bc_R_init 9 = .ok (.aload_n 0, 1) := by decide +kernel
theorem dc_R_init_10 : decode bc_R_init 10 = .ok (.iload_n 2, 1) := by decide +kernel
theorem dc_R_init_11 : decode bc_R_init 11 = .ok (.putfield 13, 3) := by decide +kernel
theorem dc_R_init_14 : decode bc_R_init 14 = .ok (.aload_n 0, 1) := by decide +kernel
theorem dc_R_init_15 : decode bc_R_init 15 = .ok (.iload_n 3, 1) := by decide +kernel
theorem dc_R_init_16 : decode bc_R_init 16 = .ok (.putfield 17, 3) := by decide +kernel
theorem dc_R_init_19 : decode bc_R_init 19 = .ok (.return_, 1) := by decide +kernel
theorem dc_R_start_0 : decode bc_R_start 0 = .ok (.aload_n 0, 1) := by decide +kernel
theorem dc_R_start_1 : decode bc_R_start 1 = .ok (.getfield 13, 3) := by decide +kernel
theorem dc_R_start_4 : decode bc_R_start 4 = .ok (.ireturn, 1) := by decide +kernel
theorem dc_R_step_0 : decode bc_R_step 0 = .ok (.aload_n 0, 1) := by decide +kernel
theorem dc_R_step_1 : decode bc_R_step 1 = .ok (.getfield 7, 3) := by decide +kernel
theorem dc_R_step_4 : decode bc_R_step 4 = .ok (.iload_n 1, 1) := by decide +kernel
theorem dc_R_step_5 : decode bc_R_step 5 = .ok (.iload_n 2, 1) := by decide +kernel
theorem dc_R_step_6 : decode bc_R_step 6 = .ok (.invokevirtual 20, 3) := by decide +kernel
theorem dc_R_step_9 : decode bc_R_step 9 = .ok (.ireturn, 1) := by decide +kernel
theorem dc_R_accepts_0 : decode bc_R_accepts 0 = .ok (.aload_n 0, 1) := by decide +kernel
theorem dc_R_accepts_1 : decode bc_R_accepts 1 = .ok (.getfield 17, 3) := by decide +kernel
theorem dc_R_accepts_4 : decode bc_R_accepts 4 = .ok (.iload_n 1, 1) := by decide +kernel
theorem dc_R_accepts_5 : decode bc_R_accepts 5 = .ok (.ishr, 1) := by decide +kernel
theorem dc_R_accepts_6 : decode bc_R_accepts 6 = .ok (.iconst 1, 1) := by decide +kernel
theorem dc_R_accepts_7 : decode bc_R_accepts 7 = .ok (.iand, 1) := by decide +kernel
theorem dc_R_accepts_8 : decode bc_R_accepts 8 = .ok (.ifCond .eq 7, 3) := by decide +kernel
theorem dc_R_accepts_11 : decode bc_R_accepts 11 = .ok (.iconst 1, 1) := by decide +kernel
theorem dc_R_accepts_12 : decode bc_R_accepts 12 = .ok (.goto 4, 3) := by decide +kernel
theorem dc_R_accepts_15 : decode bc_R_accepts 15 = .ok (.iconst 0, 1) := by decide +kernel
theorem dc_R_accepts_16 : decode bc_R_accepts 16 = .ok (.ireturn, 1) := by decide +kernel
theorem dc_S_init_0 : decode bc_S_init 0 = .ok (.aload_n 0, 1) := by decide +kernel
theorem dc_S_init_1 : decode bc_S_init 1 = .ok (.invokespecial 3, 3) := by decide +kernel
theorem dc_S_init_4 : decode bc_S_init 4 = .ok (.aload_n 0, 1) := by decide +kernel
theorem dc_S_init_5 : decode bc_S_init 5 = .ok (.new 9, 3) := by decide +kernel
theorem dc_S_init_8 : decode bc_S_init 8 = .ok (.dup, 1) := by decide +kernel
theorem dc_S_init_9 : decode bc_S_init 9 = .ok (.iconst 0, 1) := by decide +kernel
theorem dc_S_init_10 : decode bc_S_init 10 = .ok (.iconst 0, 1) := by decide +kernel
theorem dc_S_init_11 : decode bc_S_init 11 = .ok (.invokespecial 11, 3) := by decide +kernel
theorem dc_S_init_14 : decode bc_S_init 14 = .ok (.putfield 14, 3) := by decide +kernel
theorem dc_S_init_17 : decode bc_S_init 17 = .ok (.aload_n 0, 1) := by decide +kernel
theorem dc_S_init_18 : decode bc_S_init 18 = .ok (.sipush 10240, 3) := by decide +kernel
theorem dc_S_init_21 : decode bc_S_init 21 = .ok (.newarray .int, 2) := by decide +kernel
theorem dc_S_init_23 : decode bc_S_init 23 = .ok (.putfield 20, 3) := by decide +kernel
theorem dc_S_init_26 : decode bc_S_init 26 = .ok (.aload_n 0, 1) := by decide +kernel
theorem dc_S_init_27 : decode bc_S_init 27 = .ok (.sipush 10240, 3) := by decide +kernel
theorem dc_S_init_30 : decode bc_S_init 30 = .ok (.newarray .int, 2) := by decide +kernel
theorem dc_S_init_32 : decode bc_S_init 32 = .ok (.putfield 24, 3) := by decide +kernel
theorem dc_S_init_35 : decode bc_S_init 35 = .ok (.aload_n 0, 1) := by decide +kernel
theorem dc_S_init_36 : decode bc_S_init 36 = .ok (.sipush 30720, 3) := by decide +kernel
theorem dc_S_init_39 : decode bc_S_init 39 = .ok (.newarray .int, 2) := by decide +kernel
theorem dc_S_init_41 : decode bc_S_init 41 = .ok (.putfield 27, 3) := by decide +kernel
theorem dc_S_init_44 : decode bc_S_init 44 = .ok (.aload_n 0, 1) := by decide +kernel
theorem dc_S_init_45 : decode bc_S_init 45 = .ok (.sipush 10240, 3) := by decide +kernel
theorem dc_S_init_48 : decode bc_S_init 48 = .ok (.newarray .int, 2) := by decide +kernel
theorem dc_S_init_50 : decode bc_S_init 50 = .ok (.putfield 30, 3) := by decide +kernel
theorem dc_S_init_53 : decode bc_S_init 53 = .ok (.aload_n 0, 1) := by decide +kernel
theorem dc_S_init_54 : decode bc_S_init 54 = .ok (.sipush 10240, 3) := by decide +kernel
theorem dc_S_init_57 : decode bc_S_init 57 = .ok (.newarray .int, 2) := by decide +kernel
theorem dc_S_init_59 : decode bc_S_init 59 = .ok (.putfield 33, 3) := by decide +kernel
theorem dc_S_init_62 : decode bc_S_init 62 = .ok (.aload_n 0, 1) := by decide +kernel
theorem dc_S_init_63 : decode bc_S_init 63 = .ok (.bipush 10, 2) := by decide +kernel
theorem dc_S_init_65 : decode bc_S_init 65 = .ok (.newarray .int, 2) := by decide +kernel
theorem dc_S_init_67 : decode bc_S_init 67 = .ok (.putfield 36, 3) := by decide +kernel
theorem dc_S_init_70 : decode bc_S_init 70 = .ok (.aload_n 0, 1) := by decide +kernel
theorem dc_S_init_71 : decode bc_S_init 71 = .ok (.bipush 10, 2) := by decide +kernel
theorem dc_S_init_73 : decode bc_S_init 73 = .ok (.newarray .int, 2) := by decide +kernel
theorem dc_S_init_75 : decode bc_S_init 75 = .ok (.putfield 39, 3) := by decide +kernel
theorem dc_S_init_78 : decode bc_S_init 78 = .ok (.aload_n 0, 1) := by decide +kernel
theorem dc_S_init_79 : decode bc_S_init 79 = .ok (.bipush 10, 2) := by decide +kernel
theorem dc_S_init_81 : decode bc_S_init 81 = .ok (.newarray .int, 2) := by decide +kernel
theorem dc_S_init_83 : decode bc_S_init 83 = .ok (.putfield 42, 3) := by decide +kernel
theorem dc_S_init_86 : decode bc_S_init 86 = .ok (.aload_n 0, 1) := by decide +kernel
theorem dc_S_init_87 : decode bc_S_init 87 = .ok (.bipush 10, 2) := by decide +kernel
theorem dc_S_init_89 : decode bc_S_init 89 = .ok (.newarray .int, 2) := by decide +kernel
theorem dc_S_init_91 : decode bc_S_init 91 = .ok (.putfield 45, 3) := by decide +kernel
theorem dc_S_init_94 : decode bc_S_init 94 = .ok (.aload_n 0, 1) := by decide +kernel
theorem dc_S_init_95 : decode bc_S_init 95 = .ok (.bipush 10, 2) := by decide +kernel
theorem dc_S_init_97 : decode bc_S_init 97 = .ok (.newarray .int, 2) := by decide +kernel
theorem dc_S_init_99 : decode bc_S_init 99 = .ok (.putfield 48, 3) := by decide +kernel
theorem dc_S_init_102 : decode bc_S_init 102 = .ok (.return_, 1) := by decide +kernel
theorem dc_S_begin_0 : decode bc_S_begin 0 = .ok (.iconst 0, 1) := by decide +kernel
theorem dc_S_begin_1 : decode bc_S_begin 1 = .ok (.istore_n 2, 1) := by decide +kernel
theorem dc_S_begin_2 : decode bc_S_begin 2 = .ok (.iload_n 2, 1) := by decide +kernel
theorem dc_S_begin_3 : decode bc_S_begin 3 = .ok (.aload_n 0, 1) := by decide +kernel
theorem dc_S_begin_4 : decode bc_S_begin 4 = .ok (.getfield 51, 3) := by decide +kernel
theorem dc_S_begin_7 : decode bc_S_begin 7 = .ok (.if_icmp .ge 21, 3) := by decide +kernel
theorem dc_S_begin_10 : decode bc_S_begin 10 = .ok (.aload_n 0, 1) := by decide +kernel
theorem dc_S_begin_11 : decode bc_S_begin 11 = .ok (.getfield 20, 3) := by decide +kernel
theorem dc_S_begin_14 : decode bc_S_begin 14 = .ok (.aload_n 0, 1) := by decide +kernel
theorem dc_S_begin_15 : decode bc_S_begin 15 = .ok (.getfield 24, 3) := by decide +kernel
theorem dc_S_begin_18 : decode bc_S_begin 18 = .ok (.iload_n 2, 1) := by decide +kernel
theorem dc_S_begin_19 : decode bc_S_begin 19 = .ok (.iaload, 1) := by decide +kernel
theorem dc_S_begin_20 : decode bc_S_begin 20 = .ok (.iconst 0, 1) := by decide +kernel
theorem dc_S_begin_21 : decode bc_S_begin 21 = .ok (.iastore, 1) := by decide +kernel
theorem dc_S_begin_22 : decode bc_S_begin 22 = .ok (.iinc 2 1, 3) := by decide +kernel
theorem dc_S_begin_25 : decode bc_S_begin 25 = .ok (.goto (-23), 3) := by decide +kernel
theorem dc_S_begin_28 : decode bc_S_begin 28 = .ok (.aload_n 0, 1) := by decide +kernel
theorem dc_S_begin_29 : decode bc_S_begin 29 = .ok (.aload_n 1, 1) := by decide +kernel
theorem dc_S_begin_30 : decode bc_S_begin 30 = .ok (.putfield 14, 3) := by decide +kernel
theorem dc_S_begin_33 : decode bc_S_begin 33 = .ok (.aload_n 0, 1) := by decide +kernel
theorem dc_S_begin_34 : decode bc_S_begin 34 = .ok (.iconst 0, 1) := by decide +kernel
theorem dc_S_begin_35 : decode bc_S_begin 35 = .ok (.putfield 51, 3) := by decide +kernel
theorem dc_S_begin_38 : decode bc_S_begin 38 = .ok (.aload_n 0, 1) := by decide +kernel
theorem dc_S_begin_39 : decode bc_S_begin 39 = .ok (.iconst 1, 1) := by decide +kernel
theorem dc_S_begin_40 : decode bc_S_begin 40 = .ok (.putfield 55, 3) := by decide +kernel
theorem dc_S_begin_43 : decode bc_S_begin 43 = .ok (.aload_n 0, 1) := by decide +kernel
theorem dc_S_begin_44 : decode bc_S_begin 44 = .ok (.iconst 0, 1) := by decide +kernel
theorem dc_S_begin_45 : decode bc_S_begin 45 = .ok (.putfield 58, 3) := by decide +kernel
theorem dc_S_begin_48 : decode bc_S_begin 48 = .ok (.aload_n 0, 1) := by decide +kernel
theorem dc_S_begin_49 : decode bc_S_begin 49 = .ok (.aload_n 0, 1) := by decide +kernel
theorem dc_S_begin_50 : decode bc_S_begin 50 = .ok (.getfield 14, 3) := by decide +kernel
theorem dc_S_begin_53 : decode bc_S_begin 53 = .ok (.invokevirtual 61, 3) := by decide +kernel
theorem dc_S_begin_56 : decode bc_S_begin 56 = .ok (.invokevirtual 67, 3) := by decide +kernel
theorem dc_S_begin_59 : decode bc_S_begin 59 = .ok (.pop, 1) := by decide +kernel
theorem dc_S_begin_60 : decode bc_S_begin 60 = .ok (.return_, 1) := by decide +kernel
theorem dc_S_meetsAnEnd_0 : decode bc_S_meetsAnEnd 0 = .ok (.iconst 0, 1) := by decide +kernel
theorem dc_S_meetsAnEnd_1 : decode bc_S_meetsAnEnd 1 = .ok (.istore_n 1, 1) := by decide +kernel
theorem dc_S_meetsAnEnd_2 : decode bc_S_meetsAnEnd 2 = .ok (.iload_n 1, 1) := by decide +kernel
theorem dc_S_meetsAnEnd_3 : decode bc_S_meetsAnEnd 3 = .ok (.aload_n 0, 1) := by decide +kernel
theorem dc_S_meetsAnEnd_4 : decode bc_S_meetsAnEnd 4 = .ok (.getfield 51, 3) := by decide +kernel
theorem dc_S_meetsAnEnd_7 : decode bc_S_meetsAnEnd 7 = .ok (.if_icmp .ge 54, 3) := by decide +kernel
theorem dc_S_meetsAnEnd_10 : decode bc_S_meetsAnEnd 10 = .ok (.iload_n 1, 1) := by decide +kernel
theorem dc_S_meetsAnEnd_11 : decode bc_S_meetsAnEnd 11 = .ok (.sipush 10240, 3) := by decide +kernel
theorem dc_S_meetsAnEnd_14 : decode bc_S_meetsAnEnd 14 = .ok (.if_icmp .ge 47, 3) := by decide +kernel
theorem dc_S_meetsAnEnd_17 : decode bc_S_meetsAnEnd 17 = .ok (.aload_n 0, 1) := by decide +kernel
theorem dc_S_meetsAnEnd_18 : decode bc_S_meetsAnEnd 18 = .ok (.getfield 14, 3) := by decide +kernel
theorem dc_S_meetsAnEnd_21 : decode bc_S_meetsAnEnd 21 = .ok (.aload_n 0, 1) := by decide +kernel
theorem dc_S_meetsAnEnd_22 : decode bc_S_meetsAnEnd 22 = .ok (.getfield 24, 3) := by decide +kernel
theorem dc_S_meetsAnEnd_25 : decode bc_S_meetsAnEnd 25 = .ok (.iload_n 1, 1) := by decide +kernel
theorem dc_S_meetsAnEnd_26 : decode bc_S_meetsAnEnd 26 = .ok (.iaload, 1) := by decide +kernel
theorem dc_S_meetsAnEnd_27 : decode bc_S_meetsAnEnd 27 = .ok (.invokevirtual 71, 3) := by decide +kernel
theorem dc_S_meetsAnEnd_30 : decode bc_S_meetsAnEnd 30 = .ok (.ifCond .eq 5, 3) := by decide +kernel
theorem dc_S_meetsAnEnd_33 : decode bc_S_meetsAnEnd 33 = .ok (.iconst 1, 1) := by decide +kernel
theorem dc_S_meetsAnEnd_34 : decode bc_S_meetsAnEnd 34 = .ok (.ireturn, 1) := by decide +kernel
theorem dc_S_meetsAnEnd_35 : decode bc_S_meetsAnEnd 35 = .ok (.iconst 0, 1) := by decide +kernel
theorem dc_S_meetsAnEnd_36 : decode bc_S_meetsAnEnd 36 = .ok (.istore_n 2, 1) := by decide +kernel
theorem dc_S_meetsAnEnd_37 : decode bc_S_meetsAnEnd 37 = .ok (.iload_n 2, 1) := by decide +kernel
theorem dc_S_meetsAnEnd_38 : decode bc_S_meetsAnEnd 38 = .ok (.iconst 3, 1) := by decide +kernel
theorem dc_S_meetsAnEnd_39 : decode bc_S_meetsAnEnd 39 = .ok (.if_icmp .ge 16, 3) := by decide +kernel
theorem dc_S_meetsAnEnd_42 : decode bc_S_meetsAnEnd 42 = .ok (.aload_n 0, 1) := by decide +kernel
theorem dc_S_meetsAnEnd_43 : decode bc_S_meetsAnEnd 43 = .ok (.iload_n 1, 1) := by decide +kernel
theorem dc_S_meetsAnEnd_44 : decode bc_S_meetsAnEnd 44 = .ok (.iload_n 2, 1) := by decide +kernel
theorem dc_S_meetsAnEnd_45 : decode bc_S_meetsAnEnd 45 = .ok (.invokevirtual 75, 3) := by decide +kernel
theorem dc_S_meetsAnEnd_48 : decode bc_S_meetsAnEnd 48 = .ok (.pop, 1) := by decide +kernel
theorem dc_S_meetsAnEnd_49 : decode bc_S_meetsAnEnd 49 = .ok (.iinc 2 1, 3) := by decide +kernel
theorem dc_S_meetsAnEnd_52 : decode bc_S_meetsAnEnd 52 = .ok (.goto (-15), 3) := by decide +kernel
theorem dc_S_meetsAnEnd_55 : decode bc_S_meetsAnEnd 55 = .ok (.iinc 1 1, 3) := by decide +kernel
theorem dc_S_meetsAnEnd_58 : decode bc_S_meetsAnEnd 58 = .ok (.goto (-56), 3) := by decide +kernel
theorem dc_S_meetsAnEnd_61 : decode bc_S_meetsAnEnd 61 = .ok (.iconst 0, 1) := by decide +kernel
theorem dc_S_meetsAnEnd_62 : decode bc_S_meetsAnEnd 62 = .ok (.ireturn, 1) := by decide +kernel
theorem dc_S_scan_0 : decode bc_S_scan 0 = .ok (.iconst 0, 1) := by decide +kernel
theorem dc_S_scan_1 : decode bc_S_scan 1 = .ok (.istore_n 1, 1) := by decide +kernel
theorem dc_S_scan_2 : decode bc_S_scan 2 = .ok (.iload_n 1, 1) := by decide +kernel
theorem dc_S_scan_3 : decode bc_S_scan 3 = .ok (.aload_n 0, 1) := by decide +kernel
theorem dc_S_scan_4 : decode bc_S_scan 4 = .ok (.getfield 58, 3) := by decide +kernel
theorem dc_S_scan_7 : decode bc_S_scan 7 = .ok (.if_icmp .ge 20, 3) := by decide +kernel
theorem dc_S_scan_10 : decode bc_S_scan 10 = .ok (.aload_n 0, 1) := by decide +kernel
theorem dc_S_scan_11 : decode bc_S_scan 11 = .ok (.aload_n 0, 1) := by decide +kernel
theorem dc_S_scan_12 : decode bc_S_scan 12 = .ok (.getfield 42, 3) := by decide +kernel
theorem dc_S_scan_15 : decode bc_S_scan 15 = .ok (.iload_n 1, 1) := by decide +kernel
theorem dc_S_scan_16 : decode bc_S_scan 16 = .ok (.iaload, 1) := by decide +kernel
theorem dc_S_scan_17 : decode bc_S_scan 17 = .ok (.invokevirtual 79, 3) := by decide +kernel
theorem dc_S_scan_20 : decode bc_S_scan 20 = .ok (.pop, 1) := by decide +kernel
theorem dc_S_scan_21 : decode bc_S_scan 21 = .ok (.iinc 1 1, 3) := by decide +kernel
theorem dc_S_scan_24 : decode bc_S_scan 24 = .ok (.goto (-22), 3) := by decide +kernel
theorem dc_S_scan_27 : decode bc_S_scan 27 = .ok (.iconst 0, 1) := by decide +kernel
theorem dc_S_scan_28 : decode bc_S_scan 28 = .ok (.istore_n 1, 1) := by decide +kernel
theorem dc_S_scan_29 : decode bc_S_scan 29 = .ok (.iload_n 1, 1) := by decide +kernel
theorem dc_S_scan_30 : decode bc_S_scan 30 = .ok (.aload_n 0, 1) := by decide +kernel
theorem dc_S_scan_31 : decode bc_S_scan 31 = .ok (.getfield 51, 3) := by decide +kernel
theorem dc_S_scan_34 : decode bc_S_scan 34 = .ok (.if_icmp .ge 108, 3) := by decide +kernel
theorem dc_S_scan_37 : decode bc_S_scan 37 = .ok (.iload_n 1, 1) := by decide +kernel
theorem dc_S_scan_38 : decode bc_S_scan 38 = .ok (.sipush 10240, 3) := by decide +kernel
theorem dc_S_scan_41 : decode bc_S_scan 41 = .ok (.if_icmp .ge 101, 3) := by decide +kernel
theorem dc_S_scan_44 : decode bc_S_scan 44 = .ok (.aload_n 0, 1) := by decide +kernel
theorem dc_S_scan_45 : decode bc_S_scan 45 = .ok (.aload_n 0, 1) := by decide +kernel
theorem dc_S_scan_46 : decode bc_S_scan 46 = .ok (.iload_n 1, 1) := by decide +kernel
theorem dc_S_scan_47 : decode bc_S_scan 47 = .ok (.invokevirtual 79, 3) := by decide +kernel
theorem dc_S_scan_50 : decode bc_S_scan 50 = .ok (.invokevirtual 82, 3) := by decide +kernel
theorem dc_S_scan_53 : decode bc_S_scan 53 = .ok (.istore_n 2, 1) := by decide +kernel
theorem dc_S_scan_54 : decode bc_S_scan 54 = .ok (.iload_n 2, 1) := by decide +kernel
theorem dc_S_scan_55 : decode bc_S_scan 55 = .ok (.aload_n 0, 1) := by decide +kernel
theorem dc_S_scan_56 : decode bc_S_scan 56 = .ok (.getfield 58, 3) := by decide +kernel
theorem dc_S_scan_59 : decode bc_S_scan 59 = .ok (.if_icmp .ne 13, 3) := by decide +kernel
theorem dc_S_scan_62 : decode bc_S_scan 62 = .ok (.aload_n 0, 1) := by decide +kernel
theorem dc_S_scan_63 : decode bc_S_scan 63 = .ok (.iload_n 1, 1) := by decide +kernel
theorem dc_S_scan_64 : decode bc_S_scan 64 = .ok (.invokevirtual 85, 3) := by decide +kernel
theorem dc_S_scan_67 : decode bc_S_scan 67 = .ok (.ifCond .ne 5, 3) := by decide +kernel
theorem dc_S_scan_70 : decode bc_S_scan 70 = .ok (.iconst 2, 1) := by decide +kernel
theorem dc_S_scan_71 : decode bc_S_scan 71 = .ok (.ireturn, 1) := by decide +kernel
theorem dc_S_scan_72 : decode bc_S_scan 72 = .ok (.iconst 0, 1) := by decide +kernel
theorem dc_S_scan_73 : decode bc_S_scan 73 = .ok (.istore_n 3, 1) := by decide +kernel
theorem dc_S_scan_74 : decode bc_S_scan 74 = .ok (.iload_n 3, 1) := by decide +kernel
theorem dc_S_scan_75 : decode bc_S_scan 75 = .ok (.iconst 3, 1) := by decide +kernel
theorem dc_S_scan_76 : decode bc_S_scan 76 = .ok (.if_icmp .ge 60, 3) := by decide +kernel
theorem dc_S_scan_79 : decode bc_S_scan 79 = .ok (.aload_n 0, 1) := by decide +kernel
theorem dc_S_scan_80 : decode bc_S_scan 80 = .ok (.aload_n 0, 1) := by decide +kernel
theorem dc_S_scan_81 : decode bc_S_scan 81 = .ok (.iload_n 1, 1) := by decide +kernel
theorem dc_S_scan_82 : decode bc_S_scan 82 = .ok (.iload_n 3, 1) := by decide +kernel
theorem dc_S_scan_83 : decode bc_S_scan 83 = .ok (.invokevirtual 75, 3) := by decide +kernel
theorem dc_S_scan_86 : decode bc_S_scan 86 = .ok (.invokevirtual 79, 3) := by decide +kernel
theorem dc_S_scan_89 : decode bc_S_scan 89 = .ok (.istore 4, 2) := by decide +kernel
theorem dc_S_scan_91 : decode bc_S_scan 91 = .ok (.aload_n 0, 1) := by decide +kernel
theorem dc_S_scan_92 : decode bc_S_scan 92 = .ok (.aload_n 0, 1) := by decide +kernel
theorem dc_S_scan_93 : decode bc_S_scan 93 = .ok (.aload_n 0, 1) := by decide +kernel
theorem dc_S_scan_94 : decode bc_S_scan 94 = .ok (.getfield 42, 3) := by decide +kernel
theorem dc_S_scan_97 : decode bc_S_scan 97 = .ok (.iload_n 2, 1) := by decide +kernel
theorem dc_S_scan_98 : decode bc_S_scan 98 = .ok (.iaload, 1) := by decide +kernel
theorem dc_S_scan_99 : decode bc_S_scan 99 = .ok (.iload_n 3, 1) := by decide +kernel
theorem dc_S_scan_100 : decode bc_S_scan 100 = .ok (.invokevirtual 75, 3) := by decide +kernel
theorem dc_S_scan_103 : decode bc_S_scan 103 = .ok (.invokevirtual 79, 3) := by decide +kernel
theorem dc_S_scan_106 : decode bc_S_scan 106 = .ok (.istore 5, 2) := by decide +kernel
theorem dc_S_scan_108 : decode bc_S_scan 108 = .ok (.iload 4, 2) := by decide +kernel
theorem dc_S_scan_110 : decode bc_S_scan 110 = .ok (.iload 5, 2) := by decide +kernel
theorem dc_S_scan_112 : decode bc_S_scan 112 = .ok (.if_icmp .eq 18, 3) := by decide +kernel
theorem dc_S_scan_115 : decode bc_S_scan 115 = .ok (.aload_n 0, 1) := by decide +kernel
theorem dc_S_scan_116 : decode bc_S_scan 116 = .ok (.iload_n 1, 1) := by decide +kernel
theorem dc_S_scan_117 : decode bc_S_scan 117 = .ok (.iload_n 3, 1) := by decide +kernel
theorem dc_S_scan_118 : decode bc_S_scan 118 = .ok (.iload 4, 2) := by decide +kernel
theorem dc_S_scan_120 : decode bc_S_scan 120 = .ok (.iload 5, 2) := by decide +kernel
theorem dc_S_scan_122 : decode bc_S_scan 122 = .ok (.ixor, 1) := by decide +kernel
theorem dc_S_scan_123 : decode bc_S_scan 123 = .ok (.invokestatic 88, 3) := by decide +kernel
theorem dc_S_scan_126 : decode bc_S_scan 126 = .ok (.invokevirtual 93, 3) := by decide +kernel
theorem dc_S_scan_129 : decode bc_S_scan 129 = .ok (.ireturn, 1) := by decide +kernel
theorem dc_S_scan_130 : decode bc_S_scan 130 = .ok (.iinc 3 1, 3) := by decide +kernel
theorem dc_S_scan_133 : decode bc_S_scan 133 = .ok (.goto (-59), 3) := by decide +kernel
theorem dc_S_scan_136 : decode bc_S_scan 136 = .ok (.iinc 1 1, 3) := by decide +kernel
theorem dc_S_scan_139 : decode bc_S_scan 139 = .ok (.goto (-110), 3) := by decide +kernel
theorem dc_S_scan_142 : decode bc_S_scan 142 = .ok (.iconst 0, 1) := by decide +kernel
theorem dc_S_scan_143 : decode bc_S_scan 143 = .ok (.ireturn, 1) := by decide +kernel
theorem dc_S_writeTo_0 : decode bc_S_writeTo 0 = .ok (.iconst 0, 1) := by decide +kernel
theorem dc_S_writeTo_1 : decode bc_S_writeTo 1 = .ok (.istore_n 2, 1) := by decide +kernel
theorem dc_S_writeTo_2 : decode bc_S_writeTo 2 = .ok (.iload_n 2, 1) := by decide +kernel
theorem dc_S_writeTo_3 : decode bc_S_writeTo 3 = .ok (.aload_n 0, 1) := by decide +kernel
theorem dc_S_writeTo_4 : decode bc_S_writeTo 4 = .ok (.getfield 58, 3) := by decide +kernel
theorem dc_S_writeTo_7 : decode bc_S_writeTo 7 = .ok (.if_icmp .ge 19, 3) := by decide +kernel
theorem dc_S_writeTo_10 : decode bc_S_writeTo 10 = .ok (.aload_n 0, 1) := by decide +kernel
theorem dc_S_writeTo_11 : decode bc_S_writeTo 11 = .ok (.getfield 45, 3) := by decide +kernel
theorem dc_S_writeTo_14 : decode bc_S_writeTo 14 = .ok (.iload_n 2, 1) := by decide +kernel
theorem dc_S_writeTo_15 : decode bc_S_writeTo 15 = .ok (.aload_n 0, 1) := by decide +kernel
theorem dc_S_writeTo_16 : decode bc_S_writeTo 16 = .ok (.getfield 58, 3) := by decide +kernel
theorem dc_S_writeTo_19 : decode bc_S_writeTo 19 = .ok (.iastore, 1) := by decide +kernel
theorem dc_S_writeTo_20 : decode bc_S_writeTo 20 = .ok (.iinc 2 1, 3) := by decide +kernel
theorem dc_S_writeTo_23 : decode bc_S_writeTo 23 = .ok (.goto (-21), 3) := by decide +kernel
theorem dc_S_writeTo_26 : decode bc_S_writeTo 26 = .ok (.iconst 1, 1) := by decide +kernel
theorem dc_S_writeTo_27 : decode bc_S_writeTo 27 = .ok (.istore_n 2, 1) := by decide +kernel
theorem dc_S_writeTo_28 : decode bc_S_writeTo 28 = .ok (.iconst 0, 1) := by decide +kernel
theorem dc_S_writeTo_29 : decode bc_S_writeTo 29 = .ok (.istore_n 3, 1) := by decide +kernel
theorem dc_S_writeTo_30 : decode bc_S_writeTo 30 = .ok (.aload_n 0, 1) := by decide +kernel
theorem dc_S_writeTo_31 : decode bc_S_writeTo 31 = .ok (.getfield 45, 3) := by decide +kernel
theorem dc_S_writeTo_34 : decode bc_S_writeTo 34 = .ok (.iconst 0, 1) := by decide +kernel
theorem dc_S_writeTo_35 : decode bc_S_writeTo 35 = .ok (.iconst 0, 1) := by decide +kernel
theorem dc_S_writeTo_36 : decode bc_S_writeTo 36 = .ok (.iastore, 1) := by decide +kernel
theorem dc_S_writeTo_37 : decode bc_S_writeTo 37 = .ok (.aload_n 0, 1) := by decide +kernel
theorem dc_S_writeTo_38 : decode bc_S_writeTo 38 = .ok (.getfield 48, 3) := by decide +kernel
theorem dc_S_writeTo_41 : decode bc_S_writeTo 41 = .ok (.iconst 0, 1) := by decide +kernel
theorem dc_S_writeTo_42 : decode bc_S_writeTo 42 = .ok (.iconst 0, 1) := by decide +kernel
theorem dc_S_writeTo_43 : decode bc_S_writeTo 43 = .ok (.iastore, 1) := by decide +kernel
theorem dc_S_writeTo_44 : decode bc_S_writeTo 44 = .ok (.iconst 0, 1) := by decide +kernel
theorem dc_S_writeTo_45 : decode bc_S_writeTo 45 = .ok (.istore 4, 2) := by decide +kernel
theorem dc_S_writeTo_47 : decode bc_S_writeTo 47 = .ok (.iload 4, 2) := by decide +kernel
theorem dc_S_writeTo_49 : decode bc_S_writeTo 49 = .ok (.iload_n 2, 1) := by decide +kernel
theorem dc_S_writeTo_50 : decode bc_S_writeTo 50 = .ok (.if_icmp .ge 133, 3) := by decide +kernel
theorem dc_S_writeTo_53 : decode bc_S_writeTo 53 = .ok (.iload 4, 2) := by decide +kernel
theorem dc_S_writeTo_55 : decode bc_S_writeTo 55 = .ok (.aload_n 0, 1) := by decide +kernel
theorem dc_S_writeTo_56 : decode bc_S_writeTo 56 = .ok (.getfield 58, 3) := by decide +kernel
theorem dc_S_writeTo_59 : decode bc_S_writeTo 59 = .ok (.if_icmp .ge 124, 3) := by decide +kernel
theorem dc_S_writeTo_62 : decode bc_S_writeTo 62 = .ok (.aload_n 0, 1) := by decide +kernel
theorem dc_S_writeTo_63 : decode bc_S_writeTo 63 = .ok (.getfield 42, 3) := by decide +kernel
theorem dc_S_writeTo_66 : decode bc_S_writeTo 66 = .ok (.aload_n 0, 1) := by decide +kernel
theorem dc_S_writeTo_67 : decode bc_S_writeTo 67 = .ok (.getfield 48, 3) := by decide +kernel
theorem dc_S_writeTo_70 : decode bc_S_writeTo 70 = .ok (.iload 4, 2) := by decide +kernel
theorem dc_S_writeTo_72 : decode bc_S_writeTo 72 = .ok (.iaload, 1) := by decide +kernel
theorem dc_S_writeTo_73 : decode bc_S_writeTo 73 = .ok (.iaload, 1) := by decide +kernel
theorem dc_S_writeTo_74 : decode bc_S_writeTo 74 = .ok (.istore 5, 2) := by decide +kernel
theorem dc_S_writeTo_76 : decode bc_S_writeTo 76 = .ok (.iload_n 3, 1) := by decide +kernel
theorem dc_S_writeTo_77 : decode bc_S_writeTo 77 = .ok (.aload_n 0, 1) := by decide +kernel
theorem dc_S_writeTo_78 : decode bc_S_writeTo 78 = .ok (.getfield 30, 3) := by decide +kernel
theorem dc_S_writeTo_81 : decode bc_S_writeTo 81 = .ok (.iload 5, 2) := by decide +kernel
theorem dc_S_writeTo_83 : decode bc_S_writeTo 83 = .ok (.iaload, 1) := by decide +kernel
theorem dc_S_writeTo_84 : decode bc_S_writeTo 84 = .ok (.iconst 1, 1) := by decide +kernel
theorem dc_S_writeTo_85 : decode bc_S_writeTo 85 = .ok (.iand, 1) := by decide +kernel
theorem dc_S_writeTo_86 : decode bc_S_writeTo 86 = .ok (.iload 4, 2) := by decide +kernel
theorem dc_S_writeTo_88 : decode bc_S_writeTo 88 = .ok (.ishl, 1) := by decide +kernel
theorem dc_S_writeTo_89 : decode bc_S_writeTo 89 = .ok (.ior, 1) := by decide +kernel
theorem dc_S_writeTo_90 : decode bc_S_writeTo 90 = .ok (.istore_n 3, 1) := by decide +kernel
theorem dc_S_writeTo_91 : decode bc_S_writeTo 91 = .ok (.iconst 0, 1) := by decide +kernel
theorem dc_S_writeTo_92 : decode bc_S_writeTo 92 = .ok (.istore 6, 2) := by decide +kernel
theorem dc_S_writeTo_94 : decode bc_S_writeTo 94 = .ok (.iload 6, 2) := by decide +kernel
theorem dc_S_writeTo_96 : decode bc_S_writeTo 96 = .ok (.iconst 3, 1) := by decide +kernel
theorem dc_S_writeTo_97 : decode bc_S_writeTo 97 = .ok (.if_icmp .ge 80, 3) := by decide +kernel
theorem dc_S_writeTo_100 : decode bc_S_writeTo 100 = .ok (.aload_n 0, 1) := by decide +kernel
theorem dc_S_writeTo_101 : decode bc_S_writeTo 101 = .ok (.aload_n 0, 1) := by decide +kernel
theorem dc_S_writeTo_102 : decode bc_S_writeTo 102 = .ok (.getfield 30, 3) := by decide +kernel
theorem dc_S_writeTo_105 : decode bc_S_writeTo 105 = .ok (.aload_n 0, 1) := by decide +kernel
theorem dc_S_writeTo_106 : decode bc_S_writeTo 106 = .ok (.iload 5, 2) := by decide +kernel
theorem dc_S_writeTo_108 : decode bc_S_writeTo 108 = .ok (.iload 6, 2) := by decide +kernel
theorem dc_S_writeTo_110 : decode bc_S_writeTo 110 = .ok (.invokevirtual 75, 3) := by decide +kernel
theorem dc_S_writeTo_113 : decode bc_S_writeTo 113 = .ok (.iaload, 1) := by decide +kernel
theorem dc_S_writeTo_114 : decode bc_S_writeTo 114 = .ok (.invokevirtual 82, 3) := by decide +kernel
theorem dc_S_writeTo_117 : decode bc_S_writeTo 117 = .ok (.istore 7, 2) := by decide +kernel
theorem dc_S_writeTo_119 : decode bc_S_writeTo 119 = .ok (.aload_n 0, 1) := by decide +kernel
theorem dc_S_writeTo_120 : decode bc_S_writeTo 120 = .ok (.getfield 45, 3) := by decide +kernel
theorem dc_S_writeTo_123 : decode bc_S_writeTo 123 = .ok (.iload 7, 2) := by decide +kernel
theorem dc_S_writeTo_125 : decode bc_S_writeTo 125 = .ok (.iaload, 1) := by decide +kernel
theorem dc_S_writeTo_126 : decode bc_S_writeTo 126 = .ok (.aload_n 0, 1) := by decide +kernel
theorem dc_S_writeTo_127 : decode bc_S_writeTo 127 = .ok (.getfield 58, 3) := by decide +kernel
theorem dc_S_writeTo_130 : decode bc_S_writeTo 130 = .ok (.if_icmp .ne 22, 3) := by decide +kernel
theorem dc_S_writeTo_133 : decode bc_S_writeTo 133 = .ok (.aload_n 0, 1) := by decide +kernel
theorem dc_S_writeTo_134 : decode bc_S_writeTo 134 = .ok (.getfield 45, 3) := by decide +kernel
theorem dc_S_writeTo_137 : decode bc_S_writeTo 137 = .ok (.iload 7, 2) := by decide +kernel
theorem dc_S_writeTo_139 : decode bc_S_writeTo 139 = .ok (.iload_n 2, 1) := by decide +kernel
theorem dc_S_writeTo_140 : decode bc_S_writeTo 140 = .ok (.iastore, 1) := by decide +kernel
theorem dc_S_writeTo_141 : decode bc_S_writeTo 141 = .ok (.aload_n 0, 1) := by decide +kernel
theorem dc_S_writeTo_142 : decode bc_S_writeTo 142 = .ok (.getfield 48, 3) := by decide +kernel
theorem dc_S_writeTo_145 : decode bc_S_writeTo 145 = .ok (.iload_n 2, 1) := by decide +kernel
theorem dc_S_writeTo_146 : decode bc_S_writeTo 146 = .ok (.iload 7, 2) := by decide +kernel
theorem dc_S_writeTo_148 : decode bc_S_writeTo 148 = .ok (.iastore, 1) := by decide +kernel
theorem dc_S_writeTo_149 : decode bc_S_writeTo 149 = .ok (.iinc 2 1, 3) := by decide +kernel
theorem dc_S_writeTo_152 : decode bc_S_writeTo 152 = .ok (.aload_n 1, 1) := by decide +kernel
theorem dc_S_writeTo_153 : decode bc_S_writeTo 153 = .ok (.getfield 97, 3) := by decide +kernel
theorem dc_S_writeTo_156 : decode bc_S_writeTo 156 = .ok (.iload 4, 2) := by decide +kernel
theorem dc_S_writeTo_158 : decode bc_S_writeTo 158 = .ok (.iconst 3, 1) := by decide +kernel
theorem dc_S_writeTo_159 : decode bc_S_writeTo 159 = .ok (.imul, 1) := by decide +kernel
theorem dc_S_writeTo_160 : decode bc_S_writeTo 160 = .ok (.iload 6, 2) := by decide +kernel
theorem dc_S_writeTo_162 : decode bc_S_writeTo 162 = .ok (.iadd, 1) := by decide +kernel
theorem dc_S_writeTo_163 : decode bc_S_writeTo 163 = .ok (.aload_n 0, 1) := by decide +kernel
theorem dc_S_writeTo_164 : decode bc_S_writeTo 164 = .ok (.getfield 45, 3) := by decide +kernel
theorem dc_S_writeTo_167 : decode bc_S_writeTo 167 = .ok (.iload 7, 2) := by decide +kernel
theorem dc_S_writeTo_169 : decode bc_S_writeTo 169 = .ok (.iaload, 1) := by decide +kernel
theorem dc_S_writeTo_170 : decode bc_S_writeTo 170 = .ok (.iastore, 1) := by decide +kernel
theorem dc_S_writeTo_171 : decode bc_S_writeTo 171 = .ok (.iinc 6 1, 3) := by decide +kernel
theorem dc_S_writeTo_174 : decode bc_S_writeTo 174 = .ok (.goto (-80), 3) := by decide +kernel
theorem dc_S_writeTo_177 : decode bc_S_writeTo 177 = .ok (.iinc 4 1, 3) := by decide +kernel
theorem dc_S_writeTo_180 : decode bc_S_writeTo 180 = .ok (.goto (-133), 3) := by decide +kernel
theorem dc_S_writeTo_183 : decode bc_S_writeTo 183 = .ok (.aload_n 1, 1) := by decide +kernel
theorem dc_S_writeTo_184 : decode bc_S_writeTo 184 = .ok (.aload_n 0, 1) := by decide +kernel
theorem dc_S_writeTo_185 : decode bc_S_writeTo 185 = .ok (.getfield 58, 3) := by decide +kernel
theorem dc_S_writeTo_188 : decode bc_S_writeTo 188 = .ok (.putfield 100, 3) := by decide +kernel
theorem dc_S_writeTo_191 : decode bc_S_writeTo 191 = .ok (.aload_n 1, 1) := by decide +kernel
theorem dc_S_writeTo_192 : decode bc_S_writeTo 192 = .ok (.iload_n 3, 1) := by decide +kernel
theorem dc_S_writeTo_193 : decode bc_S_writeTo 193 = .ok (.putfield 103, 3) := by decide +kernel
theorem dc_S_writeTo_196 : decode bc_S_writeTo 196 = .ok (.aload_n 1, 1) := by decide +kernel
theorem dc_S_writeTo_197 : decode bc_S_writeTo 197 = .ok (.invokevirtual 106, 3) := by decide +kernel
theorem dc_S_writeTo_200 : decode bc_S_writeTo 200 = .ok (.return_, 1) := by decide +kernel
theorem dc_S_split_0 : decode bc_S_split 0 = .ok (.aload_n 0, 1) := by decide +kernel
theorem dc_S_split_1 : decode bc_S_split 1 = .ok (.iload_n 1, 1) := by decide +kernel
theorem dc_S_split_2 : decode bc_S_split 2 = .ok (.invokevirtual 85, 3) := by decide +kernel
theorem dc_S_split_5 : decode bc_S_split 5 = .ok (.ifCond .ne 5, 3) := by decide +kernel
theorem dc_S_split_8 : decode bc_S_split 8 = .ok (.iconst 2, 1) := by decide +kernel
theorem dc_S_split_9 : decode bc_S_split 9 = .ok (.ireturn, 1) := by decide +kernel
theorem dc_S_split_10 : decode bc_S_split 10 = .ok (.aload_n 0, 1) := by decide +kernel
theorem dc_S_split_11 : decode bc_S_split 11 = .ok (.getfield 36, 3) := by decide +kernel
theorem dc_S_split_14 : decode bc_S_split 14 = .ok (.aload_n 0, 1) := by decide +kernel
theorem dc_S_split_15 : decode bc_S_split 15 = .ok (.getfield 55, 3) := by decide +kernel
theorem dc_S_split_18 : decode bc_S_split 18 = .ok (.iload_n 2, 1) := by decide +kernel
theorem dc_S_split_19 : decode bc_S_split 19 = .ok (.iastore, 1) := by decide +kernel
theorem dc_S_split_20 : decode bc_S_split 20 = .ok (.aload_n 0, 1) := by decide +kernel
theorem dc_S_split_21 : decode bc_S_split 21 = .ok (.getfield 39, 3) := by decide +kernel
theorem dc_S_split_24 : decode bc_S_split 24 = .ok (.aload_n 0, 1) := by decide +kernel
theorem dc_S_split_25 : decode bc_S_split 25 = .ok (.getfield 55, 3) := by decide +kernel
theorem dc_S_split_28 : decode bc_S_split 28 = .ok (.iload_n 3, 1) := by decide +kernel
theorem dc_S_split_29 : decode bc_S_split 29 = .ok (.iastore, 1) := by decide +kernel
theorem dc_S_split_30 : decode bc_S_split 30 = .ok (.aload_n 0, 1) := by decide +kernel
theorem dc_S_split_31 : decode bc_S_split 31 = .ok (.dup, 1) := by decide +kernel
theorem dc_S_split_32 : decode bc_S_split 32 = .ok (.getfield 55, 3) := by decide +kernel
theorem dc_S_split_35 : decode bc_S_split 35 = .ok (.iconst 1, 1) := by decide +kernel
theorem dc_S_split_36 : decode bc_S_split 36 = .ok (.iadd, 1) := by decide +kernel
theorem dc_S_split_37 : decode bc_S_split 37 = .ok (.putfield 55, 3) := by decide +kernel
theorem dc_S_split_40 : decode bc_S_split 40 = .ok (.iconst 1, 1) := by decide +kernel
theorem dc_S_split_41 : decode bc_S_split 41 = .ok (.ireturn, 1) := by decide +kernel
theorem dc_S_addKind_0 : decode bc_S_addKind 0 = .ok (.aload_n 0, 1) := by decide +kernel
theorem dc_S_addKind_1 : decode bc_S_addKind 1 = .ok (.getfield 58, 3) := by decide +kernel
theorem dc_S_addKind_4 : decode bc_S_addKind 4 = .ok (.bipush 10, 2) := by decide +kernel
theorem dc_S_addKind_6 : decode bc_S_addKind 6 = .ok (.if_icmp .lt 5, 3) := by decide +kernel
theorem dc_S_addKind_9 : decode bc_S_addKind 9 = .ok (.iconst 0, 1) := by decide +kernel
theorem dc_S_addKind_10 : decode bc_S_addKind 10 = .ok (.ireturn, 1) := by decide +kernel
theorem dc_S_addKind_11 : decode bc_S_addKind 11 = .ok (.aload_n 0, 1) := by decide +kernel
theorem dc_S_addKind_12 : decode bc_S_addKind 12 = .ok (.getfield 42, 3) := by decide +kernel
theorem dc_S_addKind_15 : decode bc_S_addKind 15 = .ok (.aload_n 0, 1) := by decide +kernel
theorem dc_S_addKind_16 : decode bc_S_addKind 16 = .ok (.getfield 58, 3) := by decide +kernel
theorem dc_S_addKind_19 : decode bc_S_addKind 19 = .ok (.iload_n 1, 1) := by decide +kernel
theorem dc_S_addKind_20 : decode bc_S_addKind 20 = .ok (.iastore, 1) := by decide +kernel
theorem dc_S_addKind_21 : decode bc_S_addKind 21 = .ok (.aload_n 0, 1) := by decide +kernel
theorem dc_S_addKind_22 : decode bc_S_addKind 22 = .ok (.dup, 1) := by decide +kernel
theorem dc_S_addKind_23 : decode bc_S_addKind 23 = .ok (.getfield 58, 3) := by decide +kernel
theorem dc_S_addKind_26 : decode bc_S_addKind 26 = .ok (.iconst 1, 1) := by decide +kernel
theorem dc_S_addKind_27 : decode bc_S_addKind 27 = .ok (.iadd, 1) := by decide +kernel
theorem dc_S_addKind_28 : decode bc_S_addKind 28 = .ok (.putfield 58, 3) := by decide +kernel
theorem dc_S_addKind_31 : decode bc_S_addKind 31 = .ok (.iconst 1, 1) := by decide +kernel
theorem dc_S_addKind_32 : decode bc_S_addKind 32 = .ok (.ireturn, 1) := by decide +kernel
theorem dc_S_kindWith_0 : decode bc_S_kindWith 0 = .ok (.iconst 0, 1) := by decide +kernel
theorem dc_S_kindWith_1 : decode bc_S_kindWith 1 = .ok (.istore_n 2, 1) := by decide +kernel
theorem dc_S_kindWith_2 : decode bc_S_kindWith 2 = .ok (.iload_n 2, 1) := by decide +kernel
theorem dc_S_kindWith_3 : decode bc_S_kindWith 3 = .ok (.aload_n 0, 1) := by decide +kernel
theorem dc_S_kindWith_4 : decode bc_S_kindWith 4 = .ok (.getfield 58, 3) := by decide +kernel
theorem dc_S_kindWith_7 : decode bc_S_kindWith 7 = .ok (.if_icmp .ge 24, 3) := by decide +kernel
theorem dc_S_kindWith_10 : decode bc_S_kindWith 10 = .ok (.aload_n 0, 1) := by decide +kernel
theorem dc_S_kindWith_11 : decode bc_S_kindWith 11 = .ok (.getfield 30, 3) := by decide +kernel
theorem dc_S_kindWith_14 : decode bc_S_kindWith 14 = .ok (.aload_n 0, 1) := by decide +kernel
theorem dc_S_kindWith_15 : decode bc_S_kindWith 15 = .ok (.getfield 42, 3) := by decide +kernel
theorem dc_S_kindWith_18 : decode bc_S_kindWith 18 = .ok (.iload_n 2, 1) := by decide +kernel
theorem dc_S_kindWith_19 : decode bc_S_kindWith 19 = .ok (.iaload, 1) := by decide +kernel
theorem dc_S_kindWith_20 : decode bc_S_kindWith 20 = .ok (.iaload, 1) := by decide +kernel
theorem dc_S_kindWith_21 : decode bc_S_kindWith 21 = .ok (.iload_n 1, 1) := by decide +kernel
theorem dc_S_kindWith_22 : decode bc_S_kindWith 22 = .ok (.if_icmp .eq 9, 3) := by decide +kernel
theorem dc_S_kindWith_25 : decode bc_S_kindWith 25 = .ok (.iinc 2 1, 3) := by decide +kernel
theorem dc_S_kindWith_28 : decode bc_S_kindWith 28 = .ok (.goto (-26), 3) := by decide +kernel
theorem dc_S_kindWith_31 : decode bc_S_kindWith 31 = .ok (.iload_n 2, 1) := by decide +kernel
theorem dc_S_kindWith_32 : decode bc_S_kindWith 32 = .ok (.ireturn, 1) := by decide +kernel
theorem dc_S_askTests_0 : decode bc_S_askTests 0 = .ok (.aload_n 0, 1) := by decide +kernel
theorem dc_S_askTests_1 : decode bc_S_askTests 1 = .ok (.getfield 33, 3) := by decide +kernel
theorem dc_S_askTests_4 : decode bc_S_askTests 4 = .ok (.iload_n 1, 1) := by decide +kernel
theorem dc_S_askTests_5 : decode bc_S_askTests 5 = .ok (.iaload, 1) := by decide +kernel
theorem dc_S_askTests_6 : decode bc_S_askTests 6 = .ok (.istore_n 2, 1) := by decide +kernel
theorem dc_S_askTests_7 : decode bc_S_askTests 7 = .ok (.iload_n 2, 1) := by decide +kernel
theorem dc_S_askTests_8 : decode bc_S_askTests 8 = .ok (.aload_n 0, 1) := by decide +kernel
theorem dc_S_askTests_9 : decode bc_S_askTests 9 = .ok (.getfield 55, 3) := by decide +kernel
theorem dc_S_askTests_12 : decode bc_S_askTests 12 = .ok (.if_icmp .ge 84, 3) := by decide +kernel
theorem dc_S_askTests_15 : decode bc_S_askTests 15 = .ok (.iload_n 1, 1) := by decide +kernel
theorem dc_S_askTests_16 : decode bc_S_askTests 16 = .ok (.istore_n 3, 1) := by decide +kernel
theorem dc_S_askTests_17 : decode bc_S_askTests 17 = .ok (.iload_n 2, 1) := by decide +kernel
theorem dc_S_askTests_18 : decode bc_S_askTests 18 = .ok (.istore 4, 2) := by decide +kernel
theorem dc_S_askTests_20 : decode bc_S_askTests 20 = .ok (.iconst 0, 1) := by decide +kernel
theorem dc_S_askTests_21 : decode bc_S_askTests 21 = .ok (.istore 5, 2) := by decide +kernel
theorem dc_S_askTests_23 : decode bc_S_askTests 23 = .ok (.iload 5, 2) := by decide +kernel
theorem dc_S_askTests_25 : decode bc_S_askTests 25 = .ok (.iload_n 2, 1) := by decide +kernel
theorem dc_S_askTests_26 : decode bc_S_askTests 26 = .ok (.if_icmp .ge 36, 3) := by decide +kernel
theorem dc_S_askTests_29 : decode bc_S_askTests 29 = .ok (.iload 4, 2) := by decide +kernel
theorem dc_S_askTests_31 : decode bc_S_askTests 31 = .ok (.ifCond .le 31, 3) := by decide +kernel
theorem dc_S_askTests_34 : decode bc_S_askTests 34 = .ok (.aload_n 0, 1) := by decide +kernel
theorem dc_S_askTests_35 : decode bc_S_askTests 35 = .ok (.iload_n 3, 1) := by decide +kernel
theorem dc_S_askTests_36 : decode bc_S_askTests 36 = .ok (.aload_n 0, 1) := by decide +kernel
theorem dc_S_askTests_37 : decode bc_S_askTests 37 = .ok (.getfield 36, 3) := by decide +kernel
theorem dc_S_askTests_40 : decode bc_S_askTests 40 = .ok (.iload 4, 2) := by decide +kernel
theorem dc_S_askTests_42 : decode bc_S_askTests 42 = .ok (.iaload, 1) := by decide +kernel
theorem dc_S_askTests_43 : decode bc_S_askTests 43 = .ok (.invokevirtual 75, 3) := by decide +kernel
theorem dc_S_askTests_46 : decode bc_S_askTests 46 = .ok (.istore_n 3, 1) := by decide +kernel
theorem dc_S_askTests_47 : decode bc_S_askTests 47 = .ok (.aload_n 0, 1) := by decide +kernel
theorem dc_S_askTests_48 : decode bc_S_askTests 48 = .ok (.getfield 39, 3) := by decide +kernel
theorem dc_S_askTests_51 : decode bc_S_askTests 51 = .ok (.iload 4, 2) := by decide +kernel
theorem dc_S_askTests_53 : decode bc_S_askTests 53 = .ok (.iaload, 1) := by decide +kernel
theorem dc_S_askTests_54 : decode bc_S_askTests 54 = .ok (.istore 4, 2) := by decide +kernel
theorem dc_S_askTests_56 : decode bc_S_askTests 56 = .ok (.iinc 5 1, 3) := by decide +kernel
theorem dc_S_askTests_59 : decode bc_S_askTests 59 = .ok (.goto (-36), 3) := by decide +kernel
theorem dc_S_askTests_62 : decode bc_S_askTests 62 = .ok (.aload_n 0, 1) := by decide +kernel
theorem dc_S_askTests_63 : decode bc_S_askTests 63 = .ok (.getfield 14, 3) := by decide +kernel
theorem dc_S_askTests_66 : decode bc_S_askTests 66 = .ok (.aload_n 0, 1) := by decide +kernel
theorem dc_S_askTests_67 : decode bc_S_askTests 67 = .ok (.getfield 24, 3) := by decide +kernel
theorem dc_S_askTests_70 : decode bc_S_askTests 70 = .ok (.iload_n 3, 1) := by decide +kernel
theorem dc_S_askTests_71 : decode bc_S_askTests 71 = .ok (.iaload, 1) := by decide +kernel
theorem dc_S_askTests_72 : decode bc_S_askTests 72 = .ok (.invokevirtual 71, 3) := by decide +kernel
theorem dc_S_askTests_75 : decode bc_S_askTests 75 = .ok (.ifCond .eq 15, 3) := by decide +kernel
theorem dc_S_askTests_78 : decode bc_S_askTests 78 = .ok (.aload_n 0, 1) := by decide +kernel
theorem dc_S_askTests_79 : decode bc_S_askTests 79 = .ok (.getfield 30, 3) := by decide +kernel
theorem dc_S_askTests_82 : decode bc_S_askTests 82 = .ok (.iload_n 1, 1) := by decide +kernel
theorem dc_S_askTests_83 : decode bc_S_askTests 83 = .ok (.dup2, 1) := by decide +kernel
theorem dc_S_askTests_84 : decode bc_S_askTests 84 = .ok (.iaload, 1) := by decide +kernel
theorem dc_S_askTests_85 : decode bc_S_askTests 85 = .ok (.iconst 1, 1) := by decide +kernel
theorem dc_S_askTests_86 : decode bc_S_askTests 86 = .ok (.iload_n 2, 1) := by decide +kernel
theorem dc_S_askTests_87 : decode bc_S_askTests 87 = .ok (.ishl, 1) := by decide +kernel
theorem dc_S_askTests_88 : decode bc_S_askTests 88 = .ok (.ior, 1) := by decide +kernel
theorem dc_S_askTests_89 : decode bc_S_askTests 89 = .ok (.iastore, 1) := by decide +kernel
theorem dc_S_askTests_90 : decode bc_S_askTests 90 = .ok (.iinc 2 1, 3) := by decide +kernel
theorem dc_S_askTests_93 : decode bc_S_askTests 93 = .ok (.goto (-86), 3) := by decide +kernel
theorem dc_S_askTests_96 : decode bc_S_askTests 96 = .ok (.aload_n 0, 1) := by decide +kernel
theorem dc_S_askTests_97 : decode bc_S_askTests 97 = .ok (.getfield 33, 3) := by decide +kernel
theorem dc_S_askTests_100 : decode bc_S_askTests 100 = .ok (.iload_n 1, 1) := by decide +kernel
theorem dc_S_askTests_101 : decode bc_S_askTests 101 = .ok (.aload_n 0, 1) := by decide +kernel
theorem dc_S_askTests_102 : decode bc_S_askTests 102 = .ok (.getfield 55, 3) := by decide +kernel
theorem dc_S_askTests_105 : decode bc_S_askTests 105 = .ok (.iastore, 1) := by decide +kernel
theorem dc_S_askTests_106 : decode bc_S_askTests 106 = .ok (.aload_n 0, 1) := by decide +kernel
theorem dc_S_askTests_107 : decode bc_S_askTests 107 = .ok (.getfield 30, 3) := by decide +kernel
theorem dc_S_askTests_110 : decode bc_S_askTests 110 = .ok (.iload_n 1, 1) := by decide +kernel
theorem dc_S_askTests_111 : decode bc_S_askTests 111 = .ok (.iaload, 1) := by decide +kernel
theorem dc_S_askTests_112 : decode bc_S_askTests 112 = .ok (.ireturn, 1) := by decide +kernel
theorem dc_S_follow_0 : decode bc_S_follow 0 = .ok (.iload_n 1, 1) := by decide +kernel
theorem dc_S_follow_1 : decode bc_S_follow 1 = .ok (.iconst 3, 1) := by decide +kernel
theorem dc_S_follow_2 : decode bc_S_follow 2 = .ok (.imul, 1) := by decide +kernel
theorem dc_S_follow_3 : decode bc_S_follow 3 = .ok (.iload_n 2, 1) := by decide +kernel
theorem dc_S_follow_4 : decode bc_S_follow 4 = .ok (.iadd, 1) := by decide +kernel
theorem dc_S_follow_5 : decode bc_S_follow 5 = .ok (.istore_n 3, 1) := by decide +kernel
theorem dc_S_follow_6 : decode bc_S_follow 6 = .ok (.aload_n 0, 1) := by decide +kernel
theorem dc_S_follow_7 : decode bc_S_follow 7 = .ok (.getfield 27, 3) := by decide +kernel
theorem dc_S_follow_10 : decode bc_S_follow 10 = .ok (.iload_n 3, 1) := by decide +kernel
theorem dc_S_follow_11 : decode bc_S_follow 11 = .ok (.iaload, 1) := by decide +kernel
theorem dc_S_follow_12 : decode bc_S_follow 12 = .ok (.ifCond .ne 29, 3) := by decide +kernel
theorem dc_S_follow_15 : decode bc_S_follow 15 = .ok (.aload_n 0, 1) := by decide +kernel
theorem dc_S_follow_16 : decode bc_S_follow 16 = .ok (.getfield 27, 3) := by decide +kernel
theorem dc_S_follow_19 : decode bc_S_follow 19 = .ok (.iload_n 3, 1) := by decide +kernel
theorem dc_S_follow_20 : decode bc_S_follow 20 = .ok (.iconst 1, 1) := by decide +kernel
theorem dc_S_follow_21 : decode bc_S_follow 21 = .ok (.aload_n 0, 1) := by decide +kernel
theorem dc_S_follow_22 : decode bc_S_follow 22 = .ok (.aload_n 0, 1) := by decide +kernel
theorem dc_S_follow_23 : decode bc_S_follow 23 = .ok (.getfield 14, 3) := by decide +kernel
theorem dc_S_follow_26 : decode bc_S_follow 26 = .ok (.aload_n 0, 1) := by decide +kernel
theorem dc_S_follow_27 : decode bc_S_follow 27 = .ok (.getfield 24, 3) := by decide +kernel
theorem dc_S_follow_30 : decode bc_S_follow 30 = .ok (.iload_n 1, 1) := by decide +kernel
theorem dc_S_follow_31 : decode bc_S_follow 31 = .ok (.iaload, 1) := by decide +kernel
theorem dc_S_follow_32 : decode bc_S_follow 32 = .ok (.iload_n 2, 1) := by decide +kernel
theorem dc_S_follow_33 : decode bc_S_follow 33 = .ok (.invokevirtual 109, 3) := by decide +kernel
theorem dc_S_follow_36 : decode bc_S_follow 36 = .ok (.invokevirtual 67, 3) := by decide +kernel
theorem dc_S_follow_39 : decode bc_S_follow 39 = .ok (.iadd, 1) := by decide +kernel
theorem dc_S_follow_40 : decode bc_S_follow 40 = .ok (.iastore, 1) := by decide +kernel
theorem dc_S_follow_41 : decode bc_S_follow 41 = .ok (.aload_n 0, 1) := by decide +kernel
theorem dc_S_follow_42 : decode bc_S_follow 42 = .ok (.getfield 27, 3) := by decide +kernel
theorem dc_S_follow_45 : decode bc_S_follow 45 = .ok (.iload_n 3, 1) := by decide +kernel
theorem dc_S_follow_46 : decode bc_S_follow 46 = .ok (.iaload, 1) := by decide +kernel
theorem dc_S_follow_47 : decode bc_S_follow 47 = .ok (.iconst 1, 1) := by decide +kernel
theorem dc_S_follow_48 : decode bc_S_follow 48 = .ok (.isub, 1) := by decide +kernel
theorem dc_S_follow_49 : decode bc_S_follow 49 = .ok (.ireturn, 1) := by decide +kernel
theorem dc_S_meet_0 : decode bc_S_meet 0 = .ok (.aload_n 0, 1) := by decide +kernel
theorem dc_S_meet_1 : decode bc_S_meet 1 = .ok (.getfield 20, 3) := by decide +kernel
theorem dc_S_meet_4 : decode bc_S_meet 4 = .ok (.iload_n 1, 1) := by decide +kernel
theorem dc_S_meet_5 : decode bc_S_meet 5 = .ok (.iaload, 1) := by decide +kernel
theorem dc_S_meet_6 : decode bc_S_meet 6 = .ok (.ifCond .ne 80, 3) := by decide +kernel
theorem dc_S_meet_9 : decode bc_S_meet 9 = .ok (.aload_n 0, 1) := by decide +kernel
theorem dc_S_meet_10 : decode bc_S_meet 10 = .ok (.getfield 24, 3) := by decide +kernel
theorem dc_S_meet_13 : decode bc_S_meet 13 = .ok (.aload_n 0, 1) := by decide +kernel
theorem dc_S_meet_14 : decode bc_S_meet 14 = .ok (.getfield 51, 3) := by decide +kernel
theorem dc_S_meet_17 : decode bc_S_meet 17 = .ok (.iload_n 1, 1) := by decide +kernel
theorem dc_S_meet_18 : decode bc_S_meet 18 = .ok (.iastore, 1) := by decide +kernel
theorem dc_S_meet_19 : decode bc_S_meet 19 = .ok (.aload_n 0, 1) := by decide +kernel
theorem dc_S_meet_20 : decode bc_S_meet 20 = .ok (.getfield 30, 3) := by decide +kernel
theorem dc_S_meet_23 : decode bc_S_meet 23 = .ok (.aload_n 0, 1) := by decide +kernel
theorem dc_S_meet_24 : decode bc_S_meet 24 = .ok (.getfield 51, 3) := by decide +kernel
theorem dc_S_meet_27 : decode bc_S_meet 27 = .ok (.iconst 0, 1) := by decide +kernel
theorem dc_S_meet_28 : decode bc_S_meet 28 = .ok (.iastore, 1) := by decide +kernel
theorem dc_S_meet_29 : decode bc_S_meet 29 = .ok (.aload_n 0, 1) := by decide +kernel
theorem dc_S_meet_30 : decode bc_S_meet 30 = .ok (.getfield 33, 3) := by decide +kernel
theorem dc_S_meet_33 : decode bc_S_meet 33 = .ok (.aload_n 0, 1) := by decide +kernel
theorem dc_S_meet_34 : decode bc_S_meet 34 = .ok (.getfield 51, 3) := by decide +kernel
theorem dc_S_meet_37 : decode bc_S_meet 37 = .ok (.iconst 0, 1) := by decide +kernel
theorem dc_S_meet_38 : decode bc_S_meet 38 = .ok (.iastore, 1) := by decide +kernel
theorem dc_S_meet_39 : decode bc_S_meet 39 = .ok (.iconst 0, 1) := by decide +kernel
theorem dc_S_meet_40 : decode bc_S_meet 40 = .ok (.istore_n 2, 1) := by decide +kernel
theorem dc_S_meet_41 : decode bc_S_meet 41 = .ok (.iload_n 2, 1) := by decide +kernel
theorem dc_S_meet_42 : decode bc_S_meet 42 = .ok (.iconst 3, 1) := by decide +kernel
theorem dc_S_meet_43 : decode bc_S_meet 43 = .ok (.if_icmp .ge 23, 3) := by decide +kernel
theorem dc_S_meet_46 : decode bc_S_meet 46 = .ok (.aload_n 0, 1) := by decide +kernel
theorem dc_S_meet_47 : decode bc_S_meet 47 = .ok (.getfield 27, 3) := by decide +kernel
theorem dc_S_meet_50 : decode bc_S_meet 50 = .ok (.aload_n 0, 1) := by decide +kernel
theorem dc_S_meet_51 : decode bc_S_meet 51 = .ok (.getfield 51, 3) := by decide +kernel
theorem dc_S_meet_54 : decode bc_S_meet 54 = .ok (.iconst 3, 1) := by decide +kernel
theorem dc_S_meet_55 : decode bc_S_meet 55 = .ok (.imul, 1) := by decide +kernel
theorem dc_S_meet_56 : decode bc_S_meet 56 = .ok (.iload_n 2, 1) := by decide +kernel
theorem dc_S_meet_57 : decode bc_S_meet 57 = .ok (.iadd, 1) := by decide +kernel
theorem dc_S_meet_58 : decode bc_S_meet 58 = .ok (.iconst 0, 1) := by decide +kernel
theorem dc_S_meet_59 : decode bc_S_meet 59 = .ok (.iastore, 1) := by decide +kernel
theorem dc_S_meet_60 : decode bc_S_meet 60 = .ok (.iinc 2 1, 3) := by decide +kernel
theorem dc_S_meet_63 : decode bc_S_meet 63 = .ok (.goto (-22), 3) := by decide +kernel
theorem dc_S_meet_66 : decode bc_S_meet 66 = .ok (.aload_n 0, 1) := by decide +kernel
theorem dc_S_meet_67 : decode bc_S_meet 67 = .ok (.dup, 1) := by decide +kernel
theorem dc_S_meet_68 : decode bc_S_meet 68 = .ok (.getfield 51, 3) := by decide +kernel
theorem dc_S_meet_71 : decode bc_S_meet 71 = .ok (.iconst 1, 1) := by decide +kernel
theorem dc_S_meet_72 : decode bc_S_meet 72 = .ok (.iadd, 1) := by decide +kernel
theorem dc_S_meet_73 : decode bc_S_meet 73 = .ok (.putfield 51, 3) := by decide +kernel
theorem dc_S_meet_76 : decode bc_S_meet 76 = .ok (.aload_n 0, 1) := by decide +kernel
theorem dc_S_meet_77 : decode bc_S_meet 77 = .ok (.getfield 20, 3) := by decide +kernel
theorem dc_S_meet_80 : decode bc_S_meet 80 = .ok (.iload_n 1, 1) := by decide +kernel
theorem dc_S_meet_81 : decode bc_S_meet 81 = .ok (.aload_n 0, 1) := by decide +kernel
theorem dc_S_meet_82 : decode bc_S_meet 82 = .ok (.getfield 51, 3) := by decide +kernel
theorem dc_S_meet_85 : decode bc_S_meet 85 = .ok (.iastore, 1) := by decide +kernel
theorem dc_S_meet_86 : decode bc_S_meet 86 = .ok (.aload_n 0, 1) := by decide +kernel
theorem dc_S_meet_87 : decode bc_S_meet 87 = .ok (.getfield 20, 3) := by decide +kernel
theorem dc_S_meet_90 : decode bc_S_meet 90 = .ok (.iload_n 1, 1) := by decide +kernel
theorem dc_S_meet_91 : decode bc_S_meet 91 = .ok (.iaload, 1) := by decide +kernel
theorem dc_S_meet_92 : decode bc_S_meet 92 = .ok (.iconst 1, 1) := by decide +kernel
theorem dc_S_meet_93 : decode bc_S_meet 93 = .ok (.isub, 1) := by decide +kernel
theorem dc_S_meet_94 : decode bc_S_meet 94 = .ok (.ireturn, 1) := by decide +kernel
theorem dc_T_init_0 : decode bc_T_init 0 = .ok (.aload_n 0, 1) := by decide +kernel
theorem dc_T_init_1 : decode bc_T_init 1 = .ok (.invokespecial 3, 3) := by decide +kernel
theorem dc_T_init_4 : decode bc_T_init 4 = .ok (.aload_n 0, 1) := by decide +kernel
theorem dc_T_init_5 : decode bc_T_init 5 = .ok (.bipush 30, 2) := by decide +kernel
theorem dc_T_init_7 : decode bc_T_init 7 = .ok (.newarray .int, 2) := by decide +kernel
theorem dc_T_init_9 : decode bc_T_init 9 = .ok (.putfield 9, 3) := by decide +kernel
theorem dc_T_init_12 : decode bc_T_init 12 = .ok (.aload_n 0, 1) := by decide +kernel
theorem dc_T_init_13 : decode bc_T_init 13 = .ok (.bipush 10, 2) := by decide +kernel
theorem dc_T_init_15 : decode bc_T_init 15 = .ok (.newarray .int, 2) := by decide +kernel
theorem dc_T_init_17 : decode bc_T_init 17 = .ok (.putfield 15, 3) := by decide +kernel
theorem dc_T_init_20 : decode bc_T_init 20 = .ok (.return_, 1) := by decide +kernel
theorem dc_T_after_0 : decode bc_T_after 0 = .ok (.aload_n 0, 1) := by decide +kernel
theorem dc_T_after_1 : decode bc_T_after 1 = .ok (.getfield 9, 3) := by decide +kernel
theorem dc_T_after_4 : decode bc_T_after 4 = .ok (.iload_n 1, 1) := by decide +kernel
theorem dc_T_after_5 : decode bc_T_after 5 = .ok (.iconst 3, 1) := by decide +kernel
theorem dc_T_after_6 : decode bc_T_after 6 = .ok (.imul, 1) := by decide +kernel
theorem dc_T_after_7 : decode bc_T_after 7 = .ok (.iload_n 2, 1) := by decide +kernel
theorem dc_T_after_8 : decode bc_T_after 8 = .ok (.iadd, 1) := by decide +kernel
theorem dc_T_after_9 : decode bc_T_after 9 = .ok (.iaload, 1) := by decide +kernel
theorem dc_T_after_10 : decode bc_T_after 10 = .ok (.ireturn, 1) := by decide +kernel
theorem dc_T_endsAt_0 : decode bc_T_endsAt 0 = .ok (.aload_n 0, 1) := by decide +kernel
theorem dc_T_endsAt_1 : decode bc_T_endsAt 1 = .ok (.getfield 18, 3) := by decide +kernel
theorem dc_T_endsAt_4 : decode bc_T_endsAt 4 = .ok (.iload_n 1, 1) := by decide +kernel
theorem dc_T_endsAt_5 : decode bc_T_endsAt 5 = .ok (.ishr, 1) := by decide +kernel
theorem dc_T_endsAt_6 : decode bc_T_endsAt 6 = .ok (.iconst 1, 1) := by decide +kernel
theorem dc_T_endsAt_7 : decode bc_T_endsAt 7 = .ok (.iand, 1) := by decide +kernel
theorem dc_T_endsAt_8 : decode bc_T_endsAt 8 = .ok (.ifCond .eq 7, 3) := by decide +kernel
theorem dc_T_endsAt_11 : decode bc_T_endsAt 11 = .ok (.iconst 1, 1) := by decide +kernel
theorem dc_T_endsAt_12 : decode bc_T_endsAt 12 = .ok (.goto 4, 3) := by decide +kernel
theorem dc_T_endsAt_15 : decode bc_T_endsAt 15 = .ok (.iconst 0, 1) := by decide +kernel
theorem dc_T_endsAt_16 : decode bc_T_endsAt 16 = .ok (.ireturn, 1) := by decide +kernel
theorem dc_T_afterAll_0 : decode bc_T_afterAll 0 = .ok (.iconst 0, 1) := by decide +kernel
theorem dc_T_afterAll_1 : decode bc_T_afterAll 1 = .ok (.istore_n 3, 1) := by decide +kernel
theorem dc_T_afterAll_2 : decode bc_T_afterAll 2 = .ok (.iconst 0, 1) := by decide +kernel
theorem dc_T_afterAll_3 : decode bc_T_afterAll 3 = .ok (.istore 4, 2) := by decide +kernel
theorem dc_T_afterAll_5 : decode bc_T_afterAll 5 = .ok (.iload 4, 2) := by decide +kernel
theorem dc_T_afterAll_7 : decode bc_T_afterAll 7 = .ok (.aload_n 0, 1) := by decide +kernel
theorem dc_T_afterAll_8 : decode bc_T_afterAll 8 = .ok (.getfield 22, 3) := by decide +kernel
theorem dc_T_afterAll_11 : decode bc_T_afterAll 11 = .ok (.if_icmp .ge 30, 3) := by decide +kernel
theorem dc_T_afterAll_14 : decode bc_T_afterAll 14 = .ok (.iload_n 1, 1) := by decide +kernel
theorem dc_T_afterAll_15 : decode bc_T_afterAll 15 = .ok (.iload 4, 2) := by decide +kernel
theorem dc_T_afterAll_17 : decode bc_T_afterAll 17 = .ok (.ishr, 1) := by decide +kernel
theorem dc_T_afterAll_18 : decode bc_T_afterAll 18 = .ok (.iconst 1, 1) := by decide +kernel
theorem dc_T_afterAll_19 : decode bc_T_afterAll 19 = .ok (.iand, 1) := by decide +kernel
theorem dc_T_afterAll_20 : decode bc_T_afterAll 20 = .ok (.ifCond .eq 15, 3) := by decide +kernel
theorem dc_T_afterAll_23 : decode bc_T_afterAll 23 = .ok (.iload_n 3, 1) := by decide +kernel
theorem dc_T_afterAll_24 : decode bc_T_afterAll 24 = .ok (.iconst 1, 1) := by decide +kernel
theorem dc_T_afterAll_25 : decode bc_T_afterAll 25 = .ok (.aload_n 0, 1) := by decide +kernel
theorem dc_T_afterAll_26 : decode bc_T_afterAll 26 = .ok (.iload 4, 2) := by decide +kernel
theorem dc_T_afterAll_28 : decode bc_T_afterAll 28 = .ok (.iload_n 2, 1) := by decide +kernel
theorem dc_T_afterAll_29 : decode bc_T_afterAll 29 = .ok (.invokevirtual 25, 3) := by decide +kernel
theorem dc_T_afterAll_32 : decode bc_T_afterAll 32 = .ok (.ishl, 1) := by decide +kernel
theorem dc_T_afterAll_33 : decode bc_T_afterAll 33 = .ok (.ior, 1) := by decide +kernel
theorem dc_T_afterAll_34 : decode bc_T_afterAll 34 = .ok (.istore_n 3, 1) := by decide +kernel
theorem dc_T_afterAll_35 : decode bc_T_afterAll 35 = .ok (.iinc 4 1, 3) := by decide +kernel
theorem dc_T_afterAll_38 : decode bc_T_afterAll 38 = .ok (.goto (-33), 3) := by decide +kernel
theorem dc_T_afterAll_41 : decode bc_T_afterAll 41 = .ok (.iload_n 3, 1) := by decide +kernel
theorem dc_T_afterAll_42 : decode bc_T_afterAll 42 = .ok (.aload_n 0, 1) := by decide +kernel
theorem dc_T_afterAll_43 : decode bc_T_afterAll 43 = .ok (.getfield 29, 3) := by decide +kernel
theorem dc_T_afterAll_46 : decode bc_T_afterAll 46 = .ok (.iand, 1) := by decide +kernel
theorem dc_T_afterAll_47 : decode bc_T_afterAll 47 = .ok (.ireturn, 1) := by decide +kernel
theorem dc_T_beforeAll_0 : decode bc_T_beforeAll 0 = .ok (.iconst 0, 1) := by decide +kernel
theorem dc_T_beforeAll_1 : decode bc_T_beforeAll 1 = .ok (.istore_n 3, 1) := by decide +kernel
theorem dc_T_beforeAll_2 : decode bc_T_beforeAll 2 = .ok (.iconst 0, 1) := by decide +kernel
theorem dc_T_beforeAll_3 : decode bc_T_beforeAll 3 = .ok (.istore 4, 2) := by decide +kernel
theorem dc_T_beforeAll_5 : decode bc_T_beforeAll 5 = .ok (.iload 4, 2) := by decide +kernel
theorem dc_T_beforeAll_7 : decode bc_T_beforeAll 7 = .ok (.aload_n 0, 1) := by decide +kernel
theorem dc_T_beforeAll_8 : decode bc_T_beforeAll 8 = .ok (.getfield 22, 3) := by decide +kernel
theorem dc_T_beforeAll_11 : decode bc_T_beforeAll 11 = .ok (.if_icmp .ge 30, 3) := by decide +kernel
theorem dc_T_beforeAll_14 : decode bc_T_beforeAll 14 = .ok (.iload_n 1, 1) := by decide +kernel
theorem dc_T_beforeAll_15 : decode bc_T_beforeAll 15 = .ok (.aload_n 0, 1) := by decide +kernel
theorem dc_T_beforeAll_16 : decode bc_T_beforeAll 16 = .ok (.iload 4, 2) := by decide +kernel
theorem dc_T_beforeAll_18 : decode bc_T_beforeAll 18 = .ok (.iload_n 2, 1) := by decide +kernel
theorem dc_T_beforeAll_19 : decode bc_T_beforeAll 19 = .ok (.invokevirtual 25, 3) := by decide +kernel
theorem dc_T_beforeAll_22 : decode bc_T_beforeAll 22 = .ok (.ishr, 1) := by decide +kernel
theorem dc_T_beforeAll_23 : decode bc_T_beforeAll 23 = .ok (.iconst 1, 1) := by decide +kernel
theorem dc_T_beforeAll_24 : decode bc_T_beforeAll 24 = .ok (.iand, 1) := by decide +kernel
theorem dc_T_beforeAll_25 : decode bc_T_beforeAll 25 = .ok (.ifCond .eq 10, 3) := by decide +kernel
theorem dc_T_beforeAll_28 : decode bc_T_beforeAll 28 = .ok (.iload_n 3, 1) := by decide +kernel
theorem dc_T_beforeAll_29 : decode bc_T_beforeAll 29 = .ok (.iconst 1, 1) := by decide +kernel
theorem dc_T_beforeAll_30 : decode bc_T_beforeAll 30 = .ok (.iload 4, 2) := by decide +kernel
theorem dc_T_beforeAll_32 : decode bc_T_beforeAll 32 = .ok (.ishl, 1) := by decide +kernel
theorem dc_T_beforeAll_33 : decode bc_T_beforeAll 33 = .ok (.ior, 1) := by decide +kernel
theorem dc_T_beforeAll_34 : decode bc_T_beforeAll 34 = .ok (.istore_n 3, 1) := by decide +kernel
theorem dc_T_beforeAll_35 : decode bc_T_beforeAll 35 = .ok (.iinc 4 1, 3) := by decide +kernel
theorem dc_T_beforeAll_38 : decode bc_T_beforeAll 38 = .ok (.goto (-33), 3) := by decide +kernel
theorem dc_T_beforeAll_41 : decode bc_T_beforeAll 41 = .ok (.iload_n 3, 1) := by decide +kernel
theorem dc_T_beforeAll_42 : decode bc_T_beforeAll 42 = .ok (.ireturn, 1) := by decide +kernel
theorem dc_T_matches_0 : decode bc_T_matches 0 = .ok (.aload_n 0, 1) := by decide +kernel
theorem dc_T_matches_1 : decode bc_T_matches 1 = .ok (.getfield 22, 3) := by decide +kernel
theorem dc_T_matches_4 : decode bc_T_matches 4 = .ok (.aload_n 1, 1) := by decide +kernel
theorem dc_T_matches_5 : decode bc_T_matches 5 = .ok (.getfield 22, 3) := by decide +kernel
theorem dc_T_matches_8 : decode bc_T_matches 8 = .ok (.if_icmp .ne 14, 3) := by decide +kernel
theorem dc_T_matches_11 : decode bc_T_matches 11 = .ok (.aload_n 0, 1) := by decide +kernel
theorem dc_T_matches_12 : decode bc_T_matches 12 = .ok (.getfield 18, 3) := by decide +kernel
theorem dc_T_matches_15 : decode bc_T_matches 15 = .ok (.aload_n 1, 1) := by decide +kernel
theorem dc_T_matches_16 : decode bc_T_matches 16 = .ok (.getfield 18, 3) := by decide +kernel
theorem dc_T_matches_19 : decode bc_T_matches 19 = .ok (.if_icmp .eq 5, 3) := by decide +kernel
theorem dc_T_matches_22 : decode bc_T_matches 22 = .ok (.iconst 0, 1) := by decide +kernel
theorem dc_T_matches_23 : decode bc_T_matches 23 = .ok (.ireturn, 1) := by decide +kernel
theorem dc_T_matches_24 : decode bc_T_matches 24 = .ok (.iconst 0, 1) := by decide +kernel
theorem dc_T_matches_25 : decode bc_T_matches 25 = .ok (.istore_n 2, 1) := by decide +kernel
theorem dc_T_matches_26 : decode bc_T_matches 26 = .ok (.iload_n 2, 1) := by decide +kernel
theorem dc_T_matches_27 : decode bc_T_matches 27 = .ok (.aload_n 0, 1) := by decide +kernel
theorem dc_T_matches_28 : decode bc_T_matches 28 = .ok (.getfield 22, 3) := by decide +kernel
theorem dc_T_matches_31 : decode bc_T_matches 31 = .ok (.iconst 3, 1) := by decide +kernel
theorem dc_T_matches_32 : decode bc_T_matches 32 = .ok (.imul, 1) := by decide +kernel
theorem dc_T_matches_33 : decode bc_T_matches 33 = .ok (.if_icmp .ge 26, 3) := by decide +kernel
theorem dc_T_matches_36 : decode bc_T_matches 36 = .ok (.aload_n 0, 1) := by decide +kernel
theorem dc_T_matches_37 : decode bc_T_matches 37 = .ok (.getfield 9, 3) := by decide +kernel
theorem dc_T_matches_40 : decode bc_T_matches 40 = .ok (.iload_n 2, 1) := by decide +kernel
theorem dc_T_matches_41 : decode bc_T_matches 41 = .ok (.iaload, 1) := by decide +kernel
theorem dc_T_matches_42 : decode bc_T_matches 42 = .ok (.aload_n 1, 1) := by decide +kernel
theorem dc_T_matches_43 : decode bc_T_matches 43 = .ok (.getfield 9, 3) := by decide +kernel
theorem dc_T_matches_46 : decode bc_T_matches 46 = .ok (.iload_n 2, 1) := by decide +kernel
theorem dc_T_matches_47 : decode bc_T_matches 47 = .ok (.iaload, 1) := by decide +kernel
theorem dc_T_matches_48 : decode bc_T_matches 48 = .ok (.if_icmp .eq 5, 3) := by decide +kernel
theorem dc_T_matches_51 : decode bc_T_matches 51 = .ok (.iconst 0, 1) := by decide +kernel
theorem dc_T_matches_52 : decode bc_T_matches 52 = .ok (.ireturn, 1) := by decide +kernel
theorem dc_T_matches_53 : decode bc_T_matches 53 = .ok (.iinc 2 1, 3) := by decide +kernel
theorem dc_T_matches_56 : decode bc_T_matches 56 = .ok (.goto (-30), 3) := by decide +kernel
theorem dc_T_matches_59 : decode bc_T_matches 59 = .ok (.iconst 1, 1) := by decide +kernel
theorem dc_T_matches_60 : decode bc_T_matches 60 = .ok (.ireturn, 1) := by decide +kernel
theorem dc_T_measure_0 : decode bc_T_measure 0 = .ok (.aload_n 0, 1) := by decide +kernel
theorem dc_T_measure_1 : decode bc_T_measure 1 = .ok (.aload_n 0, 1) := by decide +kernel
theorem dc_T_measure_2 : decode bc_T_measure 2 = .ok (.getfield 18, 3) := by decide +kernel
theorem dc_T_measure_5 : decode bc_T_measure 5 = .ok (.putfield 29, 3) := by decide +kernel
theorem dc_T_measure_8 : decode bc_T_measure 8 = .ok (.iconst 0, 1) := by decide +kernel
theorem dc_T_measure_9 : decode bc_T_measure 9 = .ok (.istore_n 1, 1) := by decide +kernel
theorem dc_T_measure_10 : decode bc_T_measure 10 = .ok (.iload_n 1, 1) := by decide +kernel
theorem dc_T_measure_11 : decode bc_T_measure 11 = .ok (.aload_n 0, 1) := by decide +kernel
theorem dc_T_measure_12 : decode bc_T_measure 12 = .ok (.getfield 22, 3) := by decide +kernel
theorem dc_T_measure_15 : decode bc_T_measure 15 = .ok (.if_icmp .ge 28, 3) := by decide +kernel
theorem dc_T_measure_18 : decode bc_T_measure 18 = .ok (.aload_n 0, 1) := by decide +kernel
theorem dc_T_measure_19 : decode bc_T_measure 19 = .ok (.getfield 15, 3) := by decide +kernel
theorem dc_T_measure_22 : decode bc_T_measure 22 = .ok (.iload_n 1, 1) := by decide +kernel
theorem dc_T_measure_23 : decode bc_T_measure 23 = .ok (.aload_n 0, 1) := by decide +kernel
theorem dc_T_measure_24 : decode bc_T_measure 24 = .ok (.iload_n 1, 1) := by decide +kernel
theorem dc_T_measure_25 : decode bc_T_measure 25 = .ok (.invokevirtual 32, 3) := by decide +kernel
theorem dc_T_measure_28 : decode bc_T_measure 28 = .ok (.ifCond .eq 7, 3) := by decide +kernel
theorem dc_T_measure_31 : decode bc_T_measure 31 = .ok (.iconst 0, 1) := by decide +kernel
theorem dc_T_measure_32 : decode bc_T_measure 32 = .ok (.goto 4, 3) := by decide +kernel
theorem dc_T_measure_35 : decode bc_T_measure 35 = .ok (.iconst (-1), 1) := by decide +kernel
theorem dc_T_measure_36 : decode bc_T_measure 36 = .ok (.iastore, 1) := by decide +kernel
theorem dc_T_measure_37 : decode bc_T_measure 37 = .ok (.iinc 1 1, 3) := by decide +kernel
theorem dc_T_measure_40 : decode bc_T_measure 40 = .ok (.goto (-30), 3) := by decide +kernel
theorem dc_T_measure_43 : decode bc_T_measure 43 = .ok (.iconst 1, 1) := by decide +kernel
theorem dc_T_measure_44 : decode bc_T_measure 44 = .ok (.istore_n 1, 1) := by decide +kernel
theorem dc_T_measure_45 : decode bc_T_measure 45 = .ok (.iload_n 1, 1) := by decide +kernel
theorem dc_T_measure_46 : decode bc_T_measure 46 = .ok (.aload_n 0, 1) := by decide +kernel
theorem dc_T_measure_47 : decode bc_T_measure 47 = .ok (.getfield 22, 3) := by decide +kernel
theorem dc_T_measure_50 : decode bc_T_measure 50 = .ok (.if_icmp .ge 66, 3) := by decide +kernel
theorem dc_T_measure_53 : decode bc_T_measure 53 = .ok (.iconst 0, 1) := by decide +kernel
theorem dc_T_measure_54 : decode bc_T_measure 54 = .ok (.istore_n 2, 1) := by decide +kernel
theorem dc_T_measure_55 : decode bc_T_measure 55 = .ok (.iload_n 2, 1) := by decide +kernel
theorem dc_T_measure_56 : decode bc_T_measure 56 = .ok (.aload_n 0, 1) := by decide +kernel
theorem dc_T_measure_57 : decode bc_T_measure 57 = .ok (.getfield 22, 3) := by decide +kernel
theorem dc_T_measure_60 : decode bc_T_measure 60 = .ok (.if_icmp .ge 50, 3) := by decide +kernel
theorem dc_T_measure_63 : decode bc_T_measure 63 = .ok (.aload_n 0, 1) := by decide +kernel
theorem dc_T_measure_64 : decode bc_T_measure 64 = .ok (.getfield 15, 3) := by decide +kernel
theorem dc_T_measure_67 : decode bc_T_measure 67 = .ok (.iload_n 2, 1) := by decide +kernel
theorem dc_T_measure_68 : decode bc_T_measure 68 = .ok (.iaload, 1) := by decide +kernel
theorem dc_T_measure_69 : decode bc_T_measure 69 = .ok (.iconst (-1), 1) := by decide +kernel
theorem dc_T_measure_70 : decode bc_T_measure 70 = .ok (.if_icmp .ne 34, 3) := by decide +kernel
theorem dc_T_measure_73 : decode bc_T_measure 73 = .ok (.aload_n 0, 1) := by decide +kernel
theorem dc_T_measure_74 : decode bc_T_measure 74 = .ok (.iload_n 2, 1) := by decide +kernel
theorem dc_T_measure_75 : decode bc_T_measure 75 = .ok (.iload_n 1, 1) := by decide +kernel
theorem dc_T_measure_76 : decode bc_T_measure 76 = .ok (.iconst 1, 1) := by decide +kernel
theorem dc_T_measure_77 : decode bc_T_measure 77 = .ok (.isub, 1) := by decide +kernel
theorem dc_T_measure_78 : decode bc_T_measure 78 = .ok (.invokevirtual 36, 3) := by decide +kernel
theorem dc_T_measure_81 : decode bc_T_measure 81 = .ok (.iconst 3, 1) := by decide +kernel
theorem dc_T_measure_82 : decode bc_T_measure 82 = .ok (.if_icmp .ge 22, 3) := by decide +kernel
theorem dc_T_measure_85 : decode bc_T_measure 85 = .ok (.aload_n 0, 1) := by decide +kernel
theorem dc_T_measure_86 : decode bc_T_measure 86 = .ok (.getfield 15, 3) := by decide +kernel
theorem dc_T_measure_89 : decode bc_T_measure 89 = .ok (.iload_n 2, 1) := by decide +kernel
theorem dc_T_measure_90 : decode bc_T_measure 90 = .ok (.iload_n 1, 1) := by decide +kernel
theorem dc_T_measure_91 : decode bc_T_measure 91 = .ok (.iastore, 1) := by decide +kernel
theorem dc_T_measure_92 : decode bc_T_measure 92 = .ok (.aload_n 0, 1) := by decide +kernel
theorem dc_T_measure_93 : decode bc_T_measure 93 = .ok (.dup, 1) := by decide +kernel
theorem dc_T_measure_94 : decode bc_T_measure 94 = .ok (.getfield 29, 3) := by decide +kernel
theorem dc_T_measure_97 : decode bc_T_measure 97 = .ok (.iconst 1, 1) := by decide +kernel
theorem dc_T_measure_98 : decode bc_T_measure 98 = .ok (.iload_n 2, 1) := by decide +kernel
theorem dc_T_measure_99 : decode bc_T_measure 99 = .ok (.ishl, 1) := by decide +kernel
theorem dc_T_measure_100 : decode bc_T_measure 100 = .ok (.ior, 1) := by decide +kernel
theorem dc_T_measure_101 : decode bc_T_measure 101 = .ok (.putfield 29, 3) := by decide +kernel
theorem dc_T_measure_104 : decode bc_T_measure 104 = .ok (.iinc 2 1, 3) := by decide +kernel
theorem dc_T_measure_107 : decode bc_T_measure 107 = .ok (.goto (-52), 3) := by decide +kernel
theorem dc_T_measure_110 : decode bc_T_measure 110 = .ok (.iinc 1 1, 3) := by decide +kernel
theorem dc_T_measure_113 : decode bc_T_measure 113 = .ok (.goto (-68), 3) := by decide +kernel
theorem dc_T_measure_116 : decode bc_T_measure 116 = .ok (.return_, 1) := by decide +kernel
theorem dc_T_nearer_0 : decode bc_T_nearer 0 = .ok (.aload_n 0, 1) := by decide +kernel
theorem dc_T_nearer_1 : decode bc_T_nearer 1 = .ok (.iload_n 1, 1) := by decide +kernel
theorem dc_T_nearer_2 : decode bc_T_nearer 2 = .ok (.aload_n 0, 1) := by decide +kernel
theorem dc_T_nearer_3 : decode bc_T_nearer 3 = .ok (.getfield 15, 3) := by decide +kernel
theorem dc_T_nearer_6 : decode bc_T_nearer 6 = .ok (.iload_n 1, 1) := by decide +kernel
theorem dc_T_nearer_7 : decode bc_T_nearer 7 = .ok (.iaload, 1) := by decide +kernel
theorem dc_T_nearer_8 : decode bc_T_nearer 8 = .ok (.iconst 1, 1) := by decide +kernel
theorem dc_T_nearer_9 : decode bc_T_nearer 9 = .ok (.isub, 1) := by decide +kernel
theorem dc_T_nearer_10 : decode bc_T_nearer 10 = .ok (.invokevirtual 36, 3) := by decide +kernel
theorem dc_T_nearer_13 : decode bc_T_nearer 13 = .ok (.ireturn, 1) := by decide +kernel
theorem dc_T_letterToward_0 : decode bc_T_letterToward 0 = .ok (.iconst 0, 1) := by decide +kernel
theorem dc_T_letterToward_1 : decode bc_T_letterToward 1 = .ok (.istore_n 3, 1) := by decide +kernel
theorem dc_T_letterToward_2 : decode bc_T_letterToward 2 = .ok (.iload_n 3, 1) := by decide +kernel
theorem dc_T_letterToward_3 : decode bc_T_letterToward 3 = .ok (.iconst 3, 1) := by decide +kernel
theorem dc_T_letterToward_4 : decode bc_T_letterToward 4 = .ok (.if_icmp .ge 26, 3) := by decide +kernel
theorem dc_T_letterToward_7 : decode bc_T_letterToward 7 = .ok (.aload_n 0, 1) := by decide +kernel
theorem dc_T_letterToward_8 : decode bc_T_letterToward 8 = .ok (.getfield 15, 3) := by decide +kernel
theorem dc_T_letterToward_11 : decode bc_T_letterToward 11 = .ok (.aload_n 0, 1) := by decide +kernel
theorem dc_T_letterToward_12 : decode bc_T_letterToward 12 = .ok (.iload_n 1, 1) := by decide +kernel
theorem dc_T_letterToward_13 : decode bc_T_letterToward 13 = .ok (.iload_n 3, 1) := by decide +kernel
theorem dc_T_letterToward_14 : decode bc_T_letterToward 14 = .ok (.invokevirtual 25, 3) := by decide +kernel
theorem dc_T_letterToward_17 : decode bc_T_letterToward 17 = .ok (.iaload, 1) := by decide +kernel
theorem dc_T_letterToward_18 : decode bc_T_letterToward 18 = .ok (.iload_n 2, 1) := by decide +kernel
theorem dc_T_letterToward_19 : decode bc_T_letterToward 19 = .ok (.if_icmp .ne 5, 3) := by decide +kernel
theorem dc_T_letterToward_22 : decode bc_T_letterToward 22 = .ok (.iload_n 3, 1) := by decide +kernel
theorem dc_T_letterToward_23 : decode bc_T_letterToward 23 = .ok (.ireturn, 1) := by decide +kernel
theorem dc_T_letterToward_24 : decode bc_T_letterToward 24 = .ok (.iinc 3 1, 3) := by decide +kernel
theorem dc_T_letterToward_27 : decode bc_T_letterToward 27 = .ok (.goto (-25), 3) := by decide +kernel
theorem dc_T_letterToward_30 : decode bc_T_letterToward 30 = .ok (.iconst 3, 1) := by decide +kernel
theorem dc_T_letterToward_31 : decode bc_T_letterToward 31 = .ok (.ireturn, 1) := by decide +kernel
theorem dc_Y_init_0 : decode bc_Y_init 0 = .ok (.aload_n 0, 1) := by decide +kernel
theorem dc_Y_init_1 : decode bc_Y_init 1 = .ok (.invokespecial 3, 3) := by decide +kernel
theorem dc_Y_init_4 : decode bc_Y_init 4 = .ok (.aload_n 0, 1) := by decide +kernel
theorem dc_Y_init_5 : decode bc_Y_init 5 = .ok (.bipush 10, 2) := by decide +kernel
theorem dc_Y_init_7 : decode bc_Y_init 7 = .ok (.newarray .long, 2) := by decide +kernel
theorem dc_Y_init_9 : decode bc_Y_init 9 = .ok (.putfield 9, 3) := by decide +kernel
theorem dc_Y_init_12 : decode bc_Y_init 12 = .ok (.aload_n 0, 1) := by decide +kernel
theorem dc_Y_init_13 : decode bc_Y_init 13 = .ok (.bipush 10, 2) := by decide +kernel
theorem dc_Y_init_15 : decode bc_Y_init 15 = .ok (.newarray .long, 2) := by decide +kernel
theorem dc_Y_init_17 : decode bc_Y_init 17 = .ok (.putfield 15, 3) := by decide +kernel
theorem dc_Y_init_20 : decode bc_Y_init 20 = .ok (.return_, 1) := by decide +kernel
theorem dc_Y_begin_0 : decode bc_Y_begin 0 = .ok (.iconst 0, 1) := by decide +kernel
theorem dc_Y_begin_1 : decode bc_Y_begin 1 = .ok (.istore_n 2, 1) := by decide +kernel
theorem dc_Y_begin_2 : decode bc_Y_begin 2 = .ok (.iload_n 2, 1) := by decide +kernel
theorem dc_Y_begin_3 : decode bc_Y_begin 3 = .ok (.aload_n 1, 1) := by decide +kernel
theorem dc_Y_begin_4 : decode bc_Y_begin 4 = .ok (.getfield 18, 3) := by decide +kernel
theorem dc_Y_begin_7 : decode bc_Y_begin 7 = .ok (.if_icmp .ge 28, 3) := by decide +kernel
theorem dc_Y_begin_10 : decode bc_Y_begin 10 = .ok (.aload_n 0, 1) := by decide +kernel
theorem dc_Y_begin_11 : decode bc_Y_begin 11 = .ok (.getfield 9, 3) := by decide +kernel
theorem dc_Y_begin_14 : decode bc_Y_begin 14 = .ok (.iload_n 2, 1) := by decide +kernel
theorem dc_Y_begin_15 : decode bc_Y_begin 15 = .ok (.aload_n 1, 1) := by decide +kernel
theorem dc_Y_begin_16 : decode bc_Y_begin 16 = .ok (.iload_n 2, 1) := by decide +kernel
theorem dc_Y_begin_17 : decode bc_Y_begin 17 = .ok (.invokevirtual 24, 3) := by decide +kernel
theorem dc_Y_begin_20 : decode bc_Y_begin 20 = .ok (.ifCond .eq 7, 3) := by decide +kernel
theorem dc_Y_begin_23 : decode bc_Y_begin 23 = .ok (.lconst 1, 1) := by decide +kernel
theorem dc_Y_begin_24 : decode bc_Y_begin 24 = .ok (.goto 4, 3) := by decide +kernel
theorem dc_Y_begin_27 : decode bc_Y_begin 27 = .ok (.lconst 0, 1) := by decide +kernel
theorem dc_Y_begin_28 : decode bc_Y_begin 28 = .ok (.lastore, 1) := by decide +kernel
theorem dc_Y_begin_29 : decode bc_Y_begin 29 = .ok (.iinc 2 1, 3) := by decide +kernel
theorem dc_Y_begin_32 : decode bc_Y_begin 32 = .ok (.goto (-30), 3) := by decide +kernel
theorem dc_Y_begin_35 : decode bc_Y_begin 35 = .ok (.return_, 1) := by decide +kernel
theorem dc_Y_lengthen_0 : decode bc_Y_lengthen 0 = .ok (.iconst 0, 1) := by decide +kernel
theorem dc_Y_lengthen_1 : decode bc_Y_lengthen 1 = .ok (.istore_n 2, 1) := by decide +kernel
theorem dc_Y_lengthen_2 : decode bc_Y_lengthen 2 = .ok (.iload_n 2, 1) := by decide +kernel
theorem dc_Y_lengthen_3 : decode bc_Y_lengthen 3 = .ok (.aload_n 1, 1) := by decide +kernel
theorem dc_Y_lengthen_4 : decode bc_Y_lengthen 4 = .ok (.getfield 18, 3) := by decide +kernel
theorem dc_Y_lengthen_7 : decode bc_Y_lengthen 7 = .ok (.if_icmp .ge 49, 3) := by decide +kernel
theorem dc_Y_lengthen_10 : decode bc_Y_lengthen 10 = .ok (.aload_n 0, 1) := by decide +kernel
theorem dc_Y_lengthen_11 : decode bc_Y_lengthen 11 = .ok (.getfield 15, 3) := by decide +kernel
theorem dc_Y_lengthen_14 : decode bc_Y_lengthen 14 = .ok (.iload_n 2, 1) := by decide +kernel
theorem dc_Y_lengthen_15 : decode bc_Y_lengthen 15 = .ok (.lconst 0, 1) := by decide +kernel
theorem dc_Y_lengthen_16 : decode bc_Y_lengthen 16 = .ok (.lastore, 1) := by decide +kernel
theorem dc_Y_lengthen_17 : decode bc_Y_lengthen 17 = .ok (.iconst 0, 1) := by decide +kernel
theorem dc_Y_lengthen_18 : decode bc_Y_lengthen 18 = .ok (.istore_n 3, 1) := by decide +kernel
theorem dc_Y_lengthen_19 : decode bc_Y_lengthen 19 = .ok (.iload_n 3, 1) := by decide +kernel
theorem dc_Y_lengthen_20 : decode bc_Y_lengthen 20 = .ok (.iconst 3, 1) := by decide +kernel
theorem dc_Y_lengthen_21 : decode bc_Y_lengthen 21 = .ok (.if_icmp .ge 29, 3) := by decide +kernel
theorem dc_Y_lengthen_24 : decode bc_Y_lengthen 24 = .ok (.aload_n 0, 1) := by decide +kernel
theorem dc_Y_lengthen_25 : decode bc_Y_lengthen 25 = .ok (.getfield 15, 3) := by decide +kernel
theorem dc_Y_lengthen_28 : decode bc_Y_lengthen 28 = .ok (.iload_n 2, 1) := by decide +kernel
theorem dc_Y_lengthen_29 : decode bc_Y_lengthen 29 = .ok (.dup2, 1) := by decide +kernel
theorem dc_Y_lengthen_30 : decode bc_Y_lengthen 30 = .ok (.laload, 1) := by decide +kernel
theorem dc_Y_lengthen_31 : decode bc_Y_lengthen 31 = .ok (.aload_n 0, 1) := by decide +kernel
theorem dc_Y_lengthen_32 : decode bc_Y_lengthen 32 = .ok (.getfield 9, 3) := by decide +kernel
theorem dc_Y_lengthen_35 : decode bc_Y_lengthen 35 = .ok (.aload_n 1, 1) := by decide +kernel
theorem dc_Y_lengthen_36 : decode bc_Y_lengthen 36 = .ok (.iload_n 2, 1) := by decide +kernel
theorem dc_Y_lengthen_37 : decode bc_Y_lengthen 37 = .ok (.iload_n 3, 1) := by decide +kernel
theorem dc_Y_lengthen_38 : decode bc_Y_lengthen 38 = .ok (.invokevirtual 28, 3) := by decide +kernel
theorem dc_Y_lengthen_41 : decode bc_Y_lengthen 41 = .ok (.laload, 1) := by decide +kernel
theorem dc_Y_lengthen_42 : decode bc_Y_lengthen 42 = .ok (.ladd, 1) := by decide +kernel
theorem dc_Y_lengthen_43 : decode bc_Y_lengthen 43 = .ok (.lastore, 1) := by decide +kernel
theorem dc_Y_lengthen_44 : decode bc_Y_lengthen 44 = .ok (.iinc 3 1, 3) := by decide +kernel
theorem dc_Y_lengthen_47 : decode bc_Y_lengthen 47 = .ok (.goto (-28), 3) := by decide +kernel
theorem dc_Y_lengthen_50 : decode bc_Y_lengthen 50 = .ok (.iinc 2 1, 3) := by decide +kernel
theorem dc_Y_lengthen_53 : decode bc_Y_lengthen 53 = .ok (.goto (-51), 3) := by decide +kernel
theorem dc_Y_lengthen_56 : decode bc_Y_lengthen 56 = .ok (.aload_n 0, 1) := by decide +kernel
theorem dc_Y_lengthen_57 : decode bc_Y_lengthen 57 = .ok (.getfield 15, 3) := by decide +kernel
theorem dc_Y_lengthen_60 : decode bc_Y_lengthen 60 = .ok (.iconst 0, 1) := by decide +kernel
theorem dc_Y_lengthen_61 : decode bc_Y_lengthen 61 = .ok (.aload_n 0, 1) := by decide +kernel
theorem dc_Y_lengthen_62 : decode bc_Y_lengthen 62 = .ok (.getfield 9, 3) := by decide +kernel
theorem dc_Y_lengthen_65 : decode bc_Y_lengthen 65 = .ok (.iconst 0, 1) := by decide +kernel
theorem dc_Y_lengthen_66 : decode bc_Y_lengthen 66 = .ok (.aload_n 1, 1) := by decide +kernel
theorem dc_Y_lengthen_67 : decode bc_Y_lengthen 67 = .ok (.getfield 18, 3) := by decide +kernel
theorem dc_Y_lengthen_70 : decode bc_Y_lengthen 70 = .ok (.invokestatic 32, 3) := by decide +kernel
theorem dc_Y_lengthen_73 : decode bc_Y_lengthen 73 = .ok (.return_, 1) := by decide +kernel
theorem dc_H_init_0 : decode bc_H_init 0 = .ok (.aload_n 0, 1) := by decide +kernel
theorem dc_H_init_1 : decode bc_H_init 1 = .ok (.invokespecial 3, 3) := by decide +kernel
theorem dc_H_init_4 : decode bc_H_init 4 = .ok (.aload_n 0, 1) := by decide +kernel
theorem dc_H_init_5 : decode bc_H_init 5 = .ok (.aload_n 1, 1) := by decide +kernel
theorem dc_H_init_6 : decode bc_H_init 6 = .ok (.putfield 9, 3) := by decide +kernel
theorem dc_H_init_9 : decode bc_H_init 9 = .ok (.aload_n 0, 1) := by decide +kernel
theorem dc_H_init_10 : decode bc_H_init 10 = .ok (.aload_n 2, 1) := by decide +kernel
theorem dc_H_init_11 : decode bc_H_init 11 = .ok (.putfield 15, 3) := by decide +kernel
theorem dc_H_init_14 : decode bc_H_init 14 = .ok (.return_, 1) := by decide +kernel
theorem dc_H_start_0 : decode bc_H_start 0 = .ok (.aload_n 0, 1) := by decide +kernel
theorem dc_H_start_1 : decode bc_H_start 1 = .ok (.iconst 0, 1) := by decide +kernel
theorem dc_H_start_2 : decode bc_H_start 2 = .ok (.iconst 0, 1) := by decide +kernel
theorem dc_H_start_3 : decode bc_H_start 3 = .ok (.invokevirtual 18, 3) := by decide +kernel
theorem dc_H_start_6 : decode bc_H_start 6 = .ok (.ireturn, 1) := by decide +kernel
theorem dc_H_step_0 : decode bc_H_step 0 = .ok (.aload_n 0, 1) := by decide +kernel
theorem dc_H_step_1 : decode bc_H_step 1 = .ok (.getfield 9, 3) := by decide +kernel
theorem dc_H_step_4 : decode bc_H_step 4 = .ok (.iload_n 1, 1) := by decide +kernel
theorem dc_H_step_5 : decode bc_H_step 5 = .ok (.sipush 1024, 3) := by decide +kernel
theorem dc_H_step_8 : decode bc_H_step 8 = .ok (.idiv, 1) := by decide +kernel
theorem dc_H_step_9 : decode bc_H_step 9 = .ok (.iload_n 2, 1) := by decide +kernel
theorem dc_H_step_10 : decode bc_H_step 10 = .ok (.invokevirtual 22, 3) := by decide +kernel
theorem dc_H_step_13 : decode bc_H_step 13 = .ok (.istore_n 3, 1) := by decide +kernel
theorem dc_H_step_14 : decode bc_H_step 14 = .ok (.aload_n 0, 1) := by decide +kernel
theorem dc_H_step_15 : decode bc_H_step 15 = .ok (.iload_n 3, 1) := by decide +kernel
theorem dc_H_step_16 : decode bc_H_step 16 = .ok (.aload_n 0, 1) := by decide +kernel
theorem dc_H_step_17 : decode bc_H_step 17 = .ok (.getfield 15, 3) := by decide +kernel
theorem dc_H_step_20 : decode bc_H_step 20 = .ok (.iload_n 1, 1) := by decide +kernel
theorem dc_H_step_21 : decode bc_H_step 21 = .ok (.sipush 1024, 3) := by decide +kernel
theorem dc_H_step_24 : decode bc_H_step 24 = .ok (.irem, 1) := by decide +kernel
theorem dc_H_step_25 : decode bc_H_step 25 = .ok (.iload_n 2, 1) := by decide +kernel
theorem dc_H_step_26 : decode bc_H_step 26 = .ok (.invokevirtual 27, 3) := by decide +kernel
theorem dc_H_step_29 : decode bc_H_step 29 = .ok (.invokevirtual 18, 3) := by decide +kernel
theorem dc_H_step_32 : decode bc_H_step 32 = .ok (.ireturn, 1) := by decide +kernel
theorem dc_H_accepts_0 : decode bc_H_accepts 0 = .ok (.iload_n 1, 1) := by decide +kernel
theorem dc_H_accepts_1 : decode bc_H_accepts 1 = .ok (.sipush 1024, 3) := by decide +kernel
theorem dc_H_accepts_4 : decode bc_H_accepts 4 = .ok (.irem, 1) := by decide +kernel
theorem dc_H_accepts_5 : decode bc_H_accepts 5 = .ok (.aload_n 0, 1) := by decide +kernel
theorem dc_H_accepts_6 : decode bc_H_accepts 6 = .ok (.getfield 15, 3) := by decide +kernel
theorem dc_H_accepts_9 : decode bc_H_accepts 9 = .ok (.getfield 30, 3) := by decide +kernel
theorem dc_H_accepts_12 : decode bc_H_accepts 12 = .ok (.iand, 1) := by decide +kernel
theorem dc_H_accepts_13 : decode bc_H_accepts 13 = .ok (.ifCond .eq 7, 3) := by decide +kernel
theorem dc_H_accepts_16 : decode bc_H_accepts 16 = .ok (.iconst 1, 1) := by decide +kernel
theorem dc_H_accepts_17 : decode bc_H_accepts 17 = .ok (.goto 4, 3) := by decide +kernel
theorem dc_H_accepts_20 : decode bc_H_accepts 20 = .ok (.iconst 0, 1) := by decide +kernel
theorem dc_H_accepts_21 : decode bc_H_accepts 21 = .ok (.ireturn, 1) := by decide +kernel
theorem dc_H_withBegun_0 : decode bc_H_withBegun 0 = .ok (.aload_n 0, 1) := by decide +kernel
theorem dc_H_withBegun_1 : decode bc_H_withBegun 1 = .ok (.getfield 9, 3) := by decide +kernel
theorem dc_H_withBegun_4 : decode bc_H_withBegun 4 = .ok (.iload_n 1, 1) := by decide +kernel
theorem dc_H_withBegun_5 : decode bc_H_withBegun 5 = .ok (.invokevirtual 34, 3) := by decide +kernel
theorem dc_H_withBegun_8 : decode bc_H_withBegun 8 = .ok (.ifCond .eq 7, 3) := by decide +kernel
theorem dc_H_withBegun_11 : decode bc_H_withBegun 11 = .ok (.iconst 1, 1) := by decide +kernel
theorem dc_H_withBegun_12 : decode bc_H_withBegun 12 = .ok (.goto 4, 3) := by decide +kernel
theorem dc_H_withBegun_15 : decode bc_H_withBegun 15 = .ok (.iconst 0, 1) := by decide +kernel
theorem dc_H_withBegun_16 : decode bc_H_withBegun 16 = .ok (.istore_n 3, 1) := by decide +kernel
theorem dc_H_withBegun_17 : decode bc_H_withBegun 17 = .ok (.iload_n 1, 1) := by decide +kernel
theorem dc_H_withBegun_18 : decode bc_H_withBegun 18 = .ok (.sipush 1024, 3) := by decide +kernel
theorem dc_H_withBegun_21 : decode bc_H_withBegun 21 = .ok (.imul, 1) := by decide +kernel
theorem dc_H_withBegun_22 : decode bc_H_withBegun 22 = .ok (.iload_n 2, 1) := by decide +kernel
theorem dc_H_withBegun_23 : decode bc_H_withBegun 23 = .ok (.iload_n 3, 1) := by decide +kernel
theorem dc_H_withBegun_24 : decode bc_H_withBegun 24 = .ok (.ior, 1) := by decide +kernel
theorem dc_H_withBegun_25 : decode bc_H_withBegun 25 = .ok (.iadd, 1) := by decide +kernel
theorem dc_H_withBegun_26 : decode bc_H_withBegun 26 = .ok (.ireturn, 1) := by decide +kernel
theorem dc_J_ntz_0 : decode bc_J_ntz 0 = .ok (.iload_n 0, 1) := by decide +kernel
theorem dc_J_ntz_1 : decode bc_J_ntz 1 = .ok (.iconst (-1), 1) := by decide +kernel
theorem dc_J_ntz_2 : decode bc_J_ntz 2 = .ok (.ixor, 1) := by decide +kernel
theorem dc_J_ntz_3 : decode bc_J_ntz 3 = .ok (.iload_n 0, 1) := by decide +kernel
theorem dc_J_ntz_4 : decode bc_J_ntz 4 = .ok (.iconst 1, 1) := by decide +kernel
theorem dc_J_ntz_5 : decode bc_J_ntz 5 = .ok (.isub, 1) := by decide +kernel
theorem dc_J_ntz_6 : decode bc_J_ntz 6 = .ok (.iand, 1) := by decide +kernel
theorem dc_J_ntz_7 : decode bc_J_ntz 7 = .ok (.istore_n 0, 1) := by decide +kernel
theorem dc_J_ntz_8 : decode bc_J_ntz 8 = .ok (.iload_n 0, 1) := by decide +kernel
theorem dc_J_ntz_9 : decode bc_J_ntz 9 = .ok (.ifCond .gt 8, 3) := by decide +kernel
theorem dc_J_ntz_12 : decode bc_J_ntz 12 = .ok (.iload_n 0, 1) := by decide +kernel
theorem dc_J_ntz_13 : decode bc_J_ntz 13 = .ok (.bipush 32, 2) := by decide +kernel
theorem dc_J_ntz_15 : decode bc_J_ntz 15 = .ok (.iand, 1) := by decide +kernel
theorem dc_J_ntz_16 : decode bc_J_ntz 16 = .ok (.ireturn, 1) := by decide +kernel
theorem dc_J_ntz_17 : decode bc_J_ntz 17 = .ok (.iconst 1, 1) := by decide +kernel
theorem dc_J_ntz_18 : decode bc_J_ntz 18 = .ok (.istore_n 1, 1) := by decide +kernel
theorem dc_J_ntz_19 : decode bc_J_ntz 19 = .ok (.iload_n 0, 1) := by decide +kernel
theorem dc_J_ntz_20 : decode bc_J_ntz 20 = .ok (.ldc_w 264, 3) := by decide +kernel
theorem dc_J_ntz_23 : decode bc_J_ntz 23 = .ok (.if_icmp .le 11, 3) := by decide +kernel
theorem dc_J_ntz_26 : decode bc_J_ntz 26 = .ok (.iinc 1 16, 3) := by decide +kernel
theorem dc_J_ntz_29 : decode bc_J_ntz 29 = .ok (.iload_n 0, 1) := by decide +kernel
theorem dc_J_ntz_30 : decode bc_J_ntz 30 = .ok (.bipush 16, 2) := by decide +kernel
theorem dc_J_ntz_32 : decode bc_J_ntz 32 = .ok (.iushr, 1) := by decide +kernel
theorem dc_J_ntz_33 : decode bc_J_ntz 33 = .ok (.istore_n 0, 1) := by decide +kernel
theorem dc_J_ntz_34 : decode bc_J_ntz 34 = .ok (.iload_n 0, 1) := by decide +kernel
theorem dc_J_ntz_35 : decode bc_J_ntz 35 = .ok (.sipush 256, 3) := by decide +kernel
theorem dc_J_ntz_38 : decode bc_J_ntz 38 = .ok (.if_icmp .le 11, 3) := by decide +kernel
theorem dc_J_ntz_41 : decode bc_J_ntz 41 = .ok (.iinc 1 8, 3) := by decide +kernel
theorem dc_J_ntz_44 : decode bc_J_ntz 44 = .ok (.iload_n 0, 1) := by decide +kernel
theorem dc_J_ntz_45 : decode bc_J_ntz 45 = .ok (.bipush 8, 2) := by decide +kernel
theorem dc_J_ntz_47 : decode bc_J_ntz 47 = .ok (.iushr, 1) := by decide +kernel
theorem dc_J_ntz_48 : decode bc_J_ntz 48 = .ok (.istore_n 0, 1) := by decide +kernel
theorem dc_J_ntz_49 : decode bc_J_ntz 49 = .ok (.iload_n 0, 1) := by decide +kernel
theorem dc_J_ntz_50 : decode bc_J_ntz 50 = .ok (.bipush 16, 2) := by decide +kernel
theorem dc_J_ntz_52 : decode bc_J_ntz 52 = .ok (.if_icmp .le 10, 3) := by decide +kernel
theorem dc_J_ntz_55 : decode bc_J_ntz 55 = .ok (.iinc 1 4, 3) := by decide +kernel
theorem dc_J_ntz_58 : decode bc_J_ntz 58 = .ok (.iload_n 0, 1) := by decide +kernel
theorem dc_J_ntz_59 : decode bc_J_ntz 59 = .ok (.iconst 4, 1) := by decide +kernel
theorem dc_J_ntz_60 : decode bc_J_ntz 60 = .ok (.iushr, 1) := by decide +kernel
theorem dc_J_ntz_61 : decode bc_J_ntz 61 = .ok (.istore_n 0, 1) := by decide +kernel
theorem dc_J_ntz_62 : decode bc_J_ntz 62 = .ok (.iload_n 0, 1) := by decide +kernel
theorem dc_J_ntz_63 : decode bc_J_ntz 63 = .ok (.iconst 4, 1) := by decide +kernel
theorem dc_J_ntz_64 : decode bc_J_ntz 64 = .ok (.if_icmp .le 10, 3) := by decide +kernel
theorem dc_J_ntz_67 : decode bc_J_ntz 67 = .ok (.iinc 1 2, 3) := by decide +kernel
theorem dc_J_ntz_70 : decode bc_J_ntz 70 = .ok (.iload_n 0, 1) := by decide +kernel
theorem dc_J_ntz_71 : decode bc_J_ntz 71 = .ok (.iconst 2, 1) := by decide +kernel
theorem dc_J_ntz_72 : decode bc_J_ntz 72 = .ok (.iushr, 1) := by decide +kernel
theorem dc_J_ntz_73 : decode bc_J_ntz 73 = .ok (.istore_n 0, 1) := by decide +kernel
theorem dc_J_ntz_74 : decode bc_J_ntz 74 = .ok (.iload_n 1, 1) := by decide +kernel
theorem dc_J_ntz_75 : decode bc_J_ntz 75 = .ok (.iload_n 0, 1) := by decide +kernel
theorem dc_J_ntz_76 : decode bc_J_ntz 76 = .ok (.iconst 1, 1) := by decide +kernel
theorem dc_J_ntz_77 : decode bc_J_ntz 77 = .ok (.iushr, 1) := by decide +kernel
theorem dc_J_ntz_78 : decode bc_J_ntz 78 = .ok (.iadd, 1) := by decide +kernel
theorem dc_J_ntz_79 : decode bc_J_ntz 79 = .ok (.ireturn, 1) := by decide +kernel
