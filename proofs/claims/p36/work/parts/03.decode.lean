theorem d_0_init_0 : decode cX0_init 0 = .ok (.aload_n 0, 1) := by decide +kernel
theorem d_0_init_1 : decode cX0_init 1 = .ok (.invokespecial 3, 3) := by decide +kernel
theorem d_0_init_4 : decode cX0_init 4 = .ok (.aload_n 0, 1) := by decide +kernel
theorem d_0_init_5 : decode cX0_init 5 = .ok (.new 9, 3) := by decide +kernel
theorem d_0_init_8 : decode cX0_init 8 = .ok (.dup, 1) := by decide +kernel
theorem d_0_init_9 : decode cX0_init 9 = .ok (.bipush 12, 2) := by decide +kernel
theorem d_0_init_11 : decode cX0_init 11 = .ok (.iconst 4, 1) := by decide +kernel
theorem d_0_init_12 : decode cX0_init 12 = .ok (.invokespecial 11, 3) := by decide +kernel
theorem d_0_init_15 : decode cX0_init 15 = .ok (.putfield 14, 3) := by decide +kernel
theorem d_0_init_18 : decode cX0_init 18 = .ok (.aload_n 0, 1) := by decide +kernel
theorem d_0_init_19 : decode cX0_init 19 = .ok (.new 9, 3) := by decide +kernel
theorem d_0_init_22 : decode cX0_init 22 = .ok (.dup, 1) := by decide +kernel
theorem d_0_init_23 : decode cX0_init 23 = .ok (.bipush 12, 2) := by decide +kernel
theorem d_0_init_25 : decode cX0_init 25 = .ok (.iconst 4, 1) := by decide +kernel
theorem d_0_init_26 : decode cX0_init 26 = .ok (.invokespecial 11, 3) := by decide +kernel
theorem d_0_init_29 : decode cX0_init 29 = .ok (.putfield 20, 3) := by decide +kernel
theorem d_0_init_32 : decode cX0_init 32 = .ok (.aload_n 0, 1) := by decide +kernel
theorem d_0_init_33 : decode cX0_init 33 = .ok (.bipush 12, 2) := by decide +kernel
theorem d_0_init_35 : decode cX0_init 35 = .ok (.newarray .int, 2) := by decide +kernel
theorem d_0_init_37 : decode cX0_init 37 = .ok (.putfield 23, 3) := by decide +kernel
theorem d_0_init_40 : decode cX0_init 40 = .ok (.return_, 1) := by decide +kernel
theorem d_0_count_0 : decode cX0_count 0 = .ok (.aload_n 0, 1) := by decide +kernel
theorem d_0_count_1 : decode cX0_count 1 = .ok (.getfield 14, 3) := by decide +kernel
theorem d_0_count_4 : decode cX0_count 4 = .ok (.invokevirtual 27, 3) := by decide +kernel
theorem d_0_count_7 : decode cX0_count 7 = .ok (.ireturn, 1) := by decide +kernel
theorem d_0_add_0 : decode cX0_add 0 = .ok (.aload_n 0, 1) := by decide +kernel
theorem d_0_add_1 : decode cX0_add 1 = .ok (.invokevirtual 31, 3) := by decide +kernel
theorem d_0_add_4 : decode cX0_add 4 = .ok (.istore 4, 2) := by decide +kernel
theorem d_0_add_6 : decode cX0_add 6 = .ok (.iload 4, 2) := by decide +kernel
theorem d_0_add_8 : decode cX0_add 8 = .ok (.ifCond .lt 13, 3) := by decide +kernel
theorem d_0_add_11 : decode cX0_add 11 = .ok (.iload 4, 2) := by decide +kernel
theorem d_0_add_13 : decode cX0_add 13 = .ok (.aload_n 0, 1) := by decide +kernel
theorem d_0_add_14 : decode cX0_add 14 = .ok (.getfield 23, 3) := by decide +kernel
theorem d_0_add_17 : decode cX0_add 17 = .ok (.arraylength, 1) := by decide +kernel
theorem d_0_add_18 : decode cX0_add 18 = .ok (.if_icmp .lt 5, 3) := by decide +kernel
theorem d_0_add_21 : decode cX0_add 21 = .ok (.iconst 0, 1) := by decide +kernel
theorem d_0_add_22 : decode cX0_add 22 = .ok (.ireturn, 1) := by decide +kernel
theorem d_0_add_23 : decode cX0_add 23 = .ok (.aload_n 0, 1) := by decide +kernel
theorem d_0_add_24 : decode cX0_add 24 = .ok (.getfield 23, 3) := by decide +kernel
theorem d_0_add_27 : decode cX0_add 27 = .ok (.iload 4, 2) := by decide +kernel
theorem d_0_add_29 : decode cX0_add 29 = .ok (.iload_n 3, 1) := by decide +kernel
theorem d_0_add_30 : decode cX0_add 30 = .ok (.iastore, 1) := by decide +kernel
theorem d_0_add_31 : decode cX0_add 31 = .ok (.aload_n 0, 1) := by decide +kernel
theorem d_0_add_32 : decode cX0_add 32 = .ok (.getfield 14, 3) := by decide +kernel
theorem d_0_add_35 : decode cX0_add 35 = .ok (.aload_n 1, 1) := by decide +kernel
theorem d_0_add_36 : decode cX0_add 36 = .ok (.invokevirtual 32, 3) := by decide +kernel
theorem d_0_add_39 : decode cX0_add 39 = .ok (.ifCond .eq 18, 3) := by decide +kernel
theorem d_0_add_42 : decode cX0_add 42 = .ok (.aload_n 0, 1) := by decide +kernel
theorem d_0_add_43 : decode cX0_add 43 = .ok (.getfield 20, 3) := by decide +kernel
theorem d_0_add_46 : decode cX0_add 46 = .ok (.aload_n 2, 1) := by decide +kernel
theorem d_0_add_47 : decode cX0_add 47 = .ok (.invokevirtual 32, 3) := by decide +kernel
theorem d_0_add_50 : decode cX0_add 50 = .ok (.ifCond .eq 7, 3) := by decide +kernel
theorem d_0_add_53 : decode cX0_add 53 = .ok (.iconst 1, 1) := by decide +kernel
theorem d_0_add_54 : decode cX0_add 54 = .ok (.goto 4, 3) := by decide +kernel
theorem d_0_add_57 : decode cX0_add 57 = .ok (.iconst 0, 1) := by decide +kernel
theorem d_0_add_58 : decode cX0_add 58 = .ok (.ireturn, 1) := by decide +kernel
theorem d_0_remove_0 : decode cX0_remove 0 = .ok (.aload_n 0, 1) := by decide +kernel
theorem d_0_remove_1 : decode cX0_remove 1 = .ok (.getfield 14, 3) := by decide +kernel
theorem d_0_remove_4 : decode cX0_remove 4 = .ok (.iload_n 1, 1) := by decide +kernel
theorem d_0_remove_5 : decode cX0_remove 5 = .ok (.invokevirtual 36, 3) := by decide +kernel
theorem d_0_remove_8 : decode cX0_remove 8 = .ok (.aload_n 0, 1) := by decide +kernel
theorem d_0_remove_9 : decode cX0_remove 9 = .ok (.getfield 20, 3) := by decide +kernel
theorem d_0_remove_12 : decode cX0_remove 12 = .ok (.iload_n 1, 1) := by decide +kernel
theorem d_0_remove_13 : decode cX0_remove 13 = .ok (.invokevirtual 36, 3) := by decide +kernel
theorem d_0_remove_16 : decode cX0_remove 16 = .ok (.aload_n 0, 1) := by decide +kernel
theorem d_0_remove_17 : decode cX0_remove 17 = .ok (.getfield 23, 3) := by decide +kernel
theorem d_0_remove_20 : decode cX0_remove 20 = .ok (.iload_n 1, 1) := by decide +kernel
theorem d_0_remove_21 : decode cX0_remove 21 = .ok (.invokestatic 40, 3) := by decide +kernel
theorem d_0_remove_24 : decode cX0_remove 24 = .ok (.return_, 1) := by decide +kernel
theorem d_0_fits_0 : decode cX0_fits 0 = .ok (.aload_n 0, 1) := by decide +kernel
theorem d_0_fits_1 : decode cX0_fits 1 = .ok (.getfield 14, 3) := by decide +kernel
theorem d_0_fits_4 : decode cX0_fits 4 = .ok (.iload_n 1, 1) := by decide +kernel
theorem d_0_fits_5 : decode cX0_fits 5 = .ok (.aload_n 2, 1) := by decide +kernel
theorem d_0_fits_6 : decode cX0_fits 6 = .ok (.invokevirtual 44, 3) := by decide +kernel
theorem d_0_fits_9 : decode cX0_fits 9 = .ok (.ifCond .eq 16, 3) := by decide +kernel
theorem d_0_fits_12 : decode cX0_fits 12 = .ok (.aload_n 0, 1) := by decide +kernel
theorem d_0_fits_13 : decode cX0_fits 13 = .ok (.iload_n 1, 1) := by decide +kernel
theorem d_0_fits_14 : decode cX0_fits 14 = .ok (.aload_n 2, 1) := by decide +kernel
theorem d_0_fits_15 : decode cX0_fits 15 = .ok (.invokevirtual 48, 3) := by decide +kernel
theorem d_0_fits_18 : decode cX0_fits 18 = .ok (.ifCond .eq 7, 3) := by decide +kernel
theorem d_0_fits_21 : decode cX0_fits 21 = .ok (.iconst 1, 1) := by decide +kernel
theorem d_0_fits_22 : decode cX0_fits 22 = .ok (.goto 4, 3) := by decide +kernel
theorem d_0_fits_25 : decode cX0_fits 25 = .ok (.iconst 0, 1) := by decide +kernel
theorem d_0_fits_26 : decode cX0_fits 26 = .ok (.ireturn, 1) := by decide +kernel
theorem d_0_meetsCondition_0 : decode cX0_meetsCondition 0 = .ok (.iload_n 1, 1) := by decide +kernel
theorem d_0_meetsCondition_1 : decode cX0_meetsCondition 1 = .ok (.ifCond .lt 21, 3) := by decide +kernel
theorem d_0_meetsCondition_4 : decode cX0_meetsCondition 4 = .ok (.iload_n 1, 1) := by decide +kernel
theorem d_0_meetsCondition_5 : decode cX0_meetsCondition 5 = .ok (.aload_n 0, 1) := by decide +kernel
theorem d_0_meetsCondition_6 : decode cX0_meetsCondition 6 = .ok (.getfield 23, 3) := by decide +kernel
theorem d_0_meetsCondition_9 : decode cX0_meetsCondition 9 = .ok (.arraylength, 1) := by decide +kernel
theorem d_0_meetsCondition_10 : decode cX0_meetsCondition 10 = .ok (.if_icmp .ge 12, 3) := by decide +kernel
theorem d_0_meetsCondition_13 : decode cX0_meetsCondition 13 = .ok (.aload_n 0, 1) := by decide +kernel
theorem d_0_meetsCondition_14 : decode cX0_meetsCondition 14 = .ok (.getfield 23, 3) := by decide +kernel
theorem d_0_meetsCondition_17 : decode cX0_meetsCondition 17 = .ok (.iload_n 1, 1) := by decide +kernel
theorem d_0_meetsCondition_18 : decode cX0_meetsCondition 18 = .ok (.iaload, 1) := by decide +kernel
theorem d_0_meetsCondition_19 : decode cX0_meetsCondition 19 = .ok (.goto 4, 3) := by decide +kernel
theorem d_0_meetsCondition_22 : decode cX0_meetsCondition 22 = .ok (.iconst 0, 1) := by decide +kernel
theorem d_0_meetsCondition_23 : decode cX0_meetsCondition 23 = .ok (.istore_n 3, 1) := by decide +kernel
theorem d_0_meetsCondition_24 : decode cX0_meetsCondition 24 = .ok (.aload_n 2, 1) := by decide +kernel
theorem d_0_meetsCondition_25 : decode cX0_meetsCondition 25 = .ok (.invokevirtual 51, 3) := by decide +kernel
theorem d_0_meetsCondition_28 : decode cX0_meetsCondition 28 = .ok (.aload_n 0, 1) := by decide +kernel
theorem d_0_meetsCondition_29 : decode cX0_meetsCondition 29 = .ok (.getfield 14, 3) := by decide +kernel
theorem d_0_meetsCondition_32 : decode cX0_meetsCondition 32 = .ok (.iload_n 1, 1) := by decide +kernel
theorem d_0_meetsCondition_33 : decode cX0_meetsCondition 33 = .ok (.invokevirtual 56, 3) := by decide +kernel
theorem d_0_meetsCondition_36 : decode cX0_meetsCondition 36 = .ok (.isub, 1) := by decide +kernel
theorem d_0_meetsCondition_37 : decode cX0_meetsCondition 37 = .ok (.iconst 1, 1) := by decide +kernel
theorem d_0_meetsCondition_38 : decode cX0_meetsCondition 38 = .ok (.isub, 1) := by decide +kernel
theorem d_0_meetsCondition_39 : decode cX0_meetsCondition 39 = .ok (.istore 4, 2) := by decide +kernel
theorem d_0_meetsCondition_41 : decode cX0_meetsCondition 41 = .ok (.iload_n 3, 1) := by decide +kernel
theorem d_0_meetsCondition_42 : decode cX0_meetsCondition 42 = .ok (.ifCond .ne 5, 3) := by decide +kernel
theorem d_0_meetsCondition_45 : decode cX0_meetsCondition 45 = .ok (.iconst 1, 1) := by decide +kernel
theorem d_0_meetsCondition_46 : decode cX0_meetsCondition 46 = .ok (.ireturn, 1) := by decide +kernel
theorem d_0_meetsCondition_47 : decode cX0_meetsCondition 47 = .ok (.iload 4, 2) := by decide +kernel
theorem d_0_meetsCondition_49 : decode cX0_meetsCondition 49 = .ok (.ifCond .lt 29, 3) := by decide +kernel
theorem d_0_meetsCondition_52 : decode cX0_meetsCondition 52 = .ok (.aload_n 2, 1) := by decide +kernel
theorem d_0_meetsCondition_53 : decode cX0_meetsCondition 53 = .ok (.iload 4, 2) := by decide +kernel
theorem d_0_meetsCondition_55 : decode cX0_meetsCondition 55 = .ok (.invokevirtual 60, 3) := by decide +kernel
theorem d_0_meetsCondition_58 : decode cX0_meetsCondition 58 = .ok (.invokestatic 64, 3) := by decide +kernel
theorem d_0_meetsCondition_61 : decode cX0_meetsCondition 61 = .ok (.iload_n 3, 1) := by decide +kernel
theorem d_0_meetsCondition_62 : decode cX0_meetsCondition 62 = .ok (.iconst 2, 1) := by decide +kernel
theorem d_0_meetsCondition_63 : decode cX0_meetsCondition 63 = .ok (.if_icmp .ne 7, 3) := by decide +kernel
theorem d_0_meetsCondition_66 : decode cX0_meetsCondition 66 = .ok (.iconst 1, 1) := by decide +kernel
theorem d_0_meetsCondition_67 : decode cX0_meetsCondition 67 = .ok (.goto 4, 3) := by decide +kernel
theorem d_0_meetsCondition_70 : decode cX0_meetsCondition 70 = .ok (.iconst 0, 1) := by decide +kernel
theorem d_0_meetsCondition_71 : decode cX0_meetsCondition 71 = .ok (.if_icmp .ne 7, 3) := by decide +kernel
theorem d_0_meetsCondition_74 : decode cX0_meetsCondition 74 = .ok (.iconst 1, 1) := by decide +kernel
theorem d_0_meetsCondition_75 : decode cX0_meetsCondition 75 = .ok (.goto 4, 3) := by decide +kernel
theorem d_0_meetsCondition_78 : decode cX0_meetsCondition 78 = .ok (.iconst 0, 1) := by decide +kernel
theorem d_0_meetsCondition_79 : decode cX0_meetsCondition 79 = .ok (.ireturn, 1) := by decide +kernel
theorem d_0_isVowel_0 : decode cX0_isVowel 0 = .ok (.iload_n 0, 1) := by decide +kernel
theorem d_0_isVowel_1 : decode cX0_isVowel 1 = .ok (.bipush 97, 2) := by decide +kernel
theorem d_0_isVowel_3 : decode cX0_isVowel 3 = .ok (.if_icmp .eq 27, 3) := by decide +kernel
theorem d_0_isVowel_6 : decode cX0_isVowel 6 = .ok (.iload_n 0, 1) := by decide +kernel
theorem d_0_isVowel_7 : decode cX0_isVowel 7 = .ok (.bipush 101, 2) := by decide +kernel
theorem d_0_isVowel_9 : decode cX0_isVowel 9 = .ok (.if_icmp .eq 21, 3) := by decide +kernel
theorem d_0_isVowel_12 : decode cX0_isVowel 12 = .ok (.iload_n 0, 1) := by decide +kernel
theorem d_0_isVowel_13 : decode cX0_isVowel 13 = .ok (.bipush 105, 2) := by decide +kernel
theorem d_0_isVowel_15 : decode cX0_isVowel 15 = .ok (.if_icmp .eq 15, 3) := by decide +kernel
theorem d_0_isVowel_18 : decode cX0_isVowel 18 = .ok (.iload_n 0, 1) := by decide +kernel
theorem d_0_isVowel_19 : decode cX0_isVowel 19 = .ok (.bipush 111, 2) := by decide +kernel
theorem d_0_isVowel_21 : decode cX0_isVowel 21 = .ok (.if_icmp .eq 9, 3) := by decide +kernel
theorem d_0_isVowel_24 : decode cX0_isVowel 24 = .ok (.iload_n 0, 1) := by decide +kernel
theorem d_0_isVowel_25 : decode cX0_isVowel 25 = .ok (.bipush 117, 2) := by decide +kernel
theorem d_0_isVowel_27 : decode cX0_isVowel 27 = .ok (.if_icmp .ne 7, 3) := by decide +kernel
theorem d_0_isVowel_30 : decode cX0_isVowel 30 = .ok (.iconst 1, 1) := by decide +kernel
theorem d_0_isVowel_31 : decode cX0_isVowel 31 = .ok (.goto 4, 3) := by decide +kernel
theorem d_0_isVowel_34 : decode cX0_isVowel 34 = .ok (.iconst 0, 1) := by decide +kernel
theorem d_0_isVowel_35 : decode cX0_isVowel 35 = .ok (.ireturn, 1) := by decide +kernel
theorem d_0_choose_0 : decode cX0_choose 0 = .ok (.iconst 0, 1) := by decide +kernel
theorem d_0_choose_1 : decode cX0_choose 1 = .ok (.istore_n 2, 1) := by decide +kernel
theorem d_0_choose_2 : decode cX0_choose 2 = .ok (.iconst 1, 1) := by decide +kernel
theorem d_0_choose_3 : decode cX0_choose 3 = .ok (.istore_n 3, 1) := by decide +kernel
theorem d_0_choose_4 : decode cX0_choose 4 = .ok (.iload_n 3, 1) := by decide +kernel
theorem d_0_choose_5 : decode cX0_choose 5 = .ok (.aload_n 0, 1) := by decide +kernel
theorem d_0_choose_6 : decode cX0_choose 6 = .ok (.invokevirtual 31, 3) := by decide +kernel
theorem d_0_choose_9 : decode cX0_choose 9 = .ok (.if_icmp .ge 39, 3) := by decide +kernel
theorem d_0_choose_12 : decode cX0_choose 12 = .ok (.aload_n 0, 1) := by decide +kernel
theorem d_0_choose_13 : decode cX0_choose 13 = .ok (.getfield 14, 3) := by decide +kernel
theorem d_0_choose_16 : decode cX0_choose 16 = .ok (.iload_n 3, 1) := by decide +kernel
theorem d_0_choose_17 : decode cX0_choose 17 = .ok (.invokevirtual 56, 3) := by decide +kernel
theorem d_0_choose_20 : decode cX0_choose 20 = .ok (.aload_n 0, 1) := by decide +kernel
theorem d_0_choose_21 : decode cX0_choose 21 = .ok (.getfield 14, 3) := by decide +kernel
theorem d_0_choose_24 : decode cX0_choose 24 = .ok (.iload_n 2, 1) := by decide +kernel
theorem d_0_choose_25 : decode cX0_choose 25 = .ok (.invokevirtual 56, 3) := by decide +kernel
theorem d_0_choose_28 : decode cX0_choose 28 = .ok (.if_icmp .lt 14, 3) := by decide +kernel
theorem d_0_choose_31 : decode cX0_choose 31 = .ok (.aload_n 0, 1) := by decide +kernel
theorem d_0_choose_32 : decode cX0_choose 32 = .ok (.iload_n 3, 1) := by decide +kernel
theorem d_0_choose_33 : decode cX0_choose 33 = .ok (.aload_n 1, 1) := by decide +kernel
theorem d_0_choose_34 : decode cX0_choose 34 = .ok (.invokevirtual 68, 3) := by decide +kernel
theorem d_0_choose_37 : decode cX0_choose 37 = .ok (.ifCond .eq 5, 3) := by decide +kernel
theorem d_0_choose_40 : decode cX0_choose 40 = .ok (.iload_n 3, 1) := by decide +kernel
theorem d_0_choose_41 : decode cX0_choose 41 = .ok (.istore_n 2, 1) := by decide +kernel
theorem d_0_choose_42 : decode cX0_choose 42 = .ok (.iinc 3 1, 3) := by decide +kernel
theorem d_0_choose_45 : decode cX0_choose 45 = .ok (.goto (-41), 3) := by decide +kernel
theorem d_0_choose_48 : decode cX0_choose 48 = .ok (.iload_n 2, 1) := by decide +kernel
theorem d_0_choose_49 : decode cX0_choose 49 = .ok (.ireturn, 1) := by decide +kernel
theorem d_0_press_0 : decode cX0_press 0 = .ok (.aload_n 2, 1) := by decide +kernel
theorem d_0_press_1 : decode cX0_press 1 = .ok (.aload_n 0, 1) := by decide +kernel
theorem d_0_press_2 : decode cX0_press 2 = .ok (.getfield 14, 3) := by decide +kernel
theorem d_0_press_5 : decode cX0_press 5 = .ok (.iload_n 1, 1) := by decide +kernel
theorem d_0_press_6 : decode cX0_press 6 = .ok (.invokevirtual 56, 3) := by decide +kernel
theorem d_0_press_9 : decode cX0_press 9 = .ok (.invokevirtual 71, 3) := by decide +kernel
theorem d_0_press_12 : decode cX0_press 12 = .ok (.aload_n 0, 1) := by decide +kernel
theorem d_0_press_13 : decode cX0_press 13 = .ok (.getfield 20, 3) := by decide +kernel
theorem d_0_press_16 : decode cX0_press 16 = .ok (.iload_n 1, 1) := by decide +kernel
theorem d_0_press_17 : decode cX0_press 17 = .ok (.aload_n 2, 1) := by decide +kernel
theorem d_0_press_18 : decode cX0_press 18 = .ok (.invokevirtual 74, 3) := by decide +kernel
theorem d_0_press_21 : decode cX0_press 21 = .ok (.return_, 1) := by decide +kernel
theorem d_0_reverse_0 : decode cX0_reverse 0 = .ok (.aload_n 0, 1) := by decide +kernel
theorem d_0_reverse_1 : decode cX0_reverse 1 = .ok (.getfield 20, 3) := by decide +kernel
theorem d_0_reverse_4 : decode cX0_reverse 4 = .ok (.iload_n 1, 1) := by decide +kernel
theorem d_0_reverse_5 : decode cX0_reverse 5 = .ok (.aload_n 2, 1) := by decide +kernel
theorem d_0_reverse_6 : decode cX0_reverse 6 = .ok (.invokevirtual 44, 3) := by decide +kernel
theorem d_0_reverse_9 : decode cX0_reverse 9 = .ok (.ifCond .ne 5, 3) := by decide +kernel
theorem d_0_reverse_12 : decode cX0_reverse 12 = .ok (.iconst 0, 1) := by decide +kernel
theorem d_0_reverse_13 : decode cX0_reverse 13 = .ok (.ireturn, 1) := by decide +kernel
theorem d_0_reverse_14 : decode cX0_reverse 14 = .ok (.aload_n 2, 1) := by decide +kernel
theorem d_0_reverse_15 : decode cX0_reverse 15 = .ok (.aload_n 0, 1) := by decide +kernel
theorem d_0_reverse_16 : decode cX0_reverse 16 = .ok (.getfield 20, 3) := by decide +kernel
theorem d_0_reverse_19 : decode cX0_reverse 19 = .ok (.iload_n 1, 1) := by decide +kernel
theorem d_0_reverse_20 : decode cX0_reverse 20 = .ok (.invokevirtual 56, 3) := by decide +kernel
theorem d_0_reverse_23 : decode cX0_reverse 23 = .ok (.invokevirtual 71, 3) := by decide +kernel
theorem d_0_reverse_26 : decode cX0_reverse 26 = .ok (.aload_n 0, 1) := by decide +kernel
theorem d_0_reverse_27 : decode cX0_reverse 27 = .ok (.getfield 14, 3) := by decide +kernel
theorem d_0_reverse_30 : decode cX0_reverse 30 = .ok (.iload_n 1, 1) := by decide +kernel
theorem d_0_reverse_31 : decode cX0_reverse 31 = .ok (.aload_n 2, 1) := by decide +kernel
theorem d_0_reverse_32 : decode cX0_reverse 32 = .ok (.invokevirtual 74, 3) := by decide +kernel
theorem d_0_reverse_35 : decode cX0_reverse 35 = .ok (.aload_n 2, 1) := by decide +kernel
theorem d_0_reverse_36 : decode cX0_reverse 36 = .ok (.invokevirtual 51, 3) := by decide +kernel
theorem d_0_reverse_39 : decode cX0_reverse 39 = .ok (.iconst 1, 1) := by decide +kernel
theorem d_0_reverse_40 : decode cX0_reverse 40 = .ok (.if_icmp .lt 16, 3) := by decide +kernel
theorem d_0_reverse_43 : decode cX0_reverse 43 = .ok (.aload_n 2, 1) := by decide +kernel
theorem d_0_reverse_44 : decode cX0_reverse 44 = .ok (.invokevirtual 51, 3) := by decide +kernel
theorem d_0_reverse_47 : decode cX0_reverse 47 = .ok (.bipush 12, 2) := by decide +kernel
theorem d_0_reverse_49 : decode cX0_reverse 49 = .ok (.if_icmp .gt 7, 3) := by decide +kernel
theorem d_0_reverse_52 : decode cX0_reverse 52 = .ok (.iconst 1, 1) := by decide +kernel
theorem d_0_reverse_53 : decode cX0_reverse 53 = .ok (.goto 4, 3) := by decide +kernel
theorem d_0_reverse_56 : decode cX0_reverse 56 = .ok (.iconst 0, 1) := by decide +kernel
theorem d_0_reverse_57 : decode cX0_reverse 57 = .ok (.ireturn, 1) := by decide +kernel
theorem d_0_copyFrom_0 : decode cX0_copyFrom 0 = .ok (.aload_n 0, 1) := by decide +kernel
theorem d_0_copyFrom_1 : decode cX0_copyFrom 1 = .ok (.getfield 14, 3) := by decide +kernel
theorem d_0_copyFrom_4 : decode cX0_copyFrom 4 = .ok (.aload_n 1, 1) := by decide +kernel
theorem d_0_copyFrom_5 : decode cX0_copyFrom 5 = .ok (.getfield 14, 3) := by decide +kernel
theorem d_0_copyFrom_8 : decode cX0_copyFrom 8 = .ok (.invokevirtual 78, 3) := by decide +kernel
theorem d_0_copyFrom_11 : decode cX0_copyFrom 11 = .ok (.aload_n 0, 1) := by decide +kernel
theorem d_0_copyFrom_12 : decode cX0_copyFrom 12 = .ok (.getfield 20, 3) := by decide +kernel
theorem d_0_copyFrom_15 : decode cX0_copyFrom 15 = .ok (.aload_n 1, 1) := by decide +kernel
theorem d_0_copyFrom_16 : decode cX0_copyFrom 16 = .ok (.getfield 20, 3) := by decide +kernel
theorem d_0_copyFrom_19 : decode cX0_copyFrom 19 = .ok (.invokevirtual 78, 3) := by decide +kernel
theorem d_0_copyFrom_22 : decode cX0_copyFrom 22 = .ok (.aload_n 1, 1) := by decide +kernel
theorem d_0_copyFrom_23 : decode cX0_copyFrom 23 = .ok (.getfield 23, 3) := by decide +kernel
theorem d_0_copyFrom_26 : decode cX0_copyFrom 26 = .ok (.aload_n 0, 1) := by decide +kernel
theorem d_0_copyFrom_27 : decode cX0_copyFrom 27 = .ok (.getfield 23, 3) := by decide +kernel
theorem d_0_copyFrom_30 : decode cX0_copyFrom 30 = .ok (.invokestatic 82, 3) := by decide +kernel
theorem d_0_copyFrom_33 : decode cX0_copyFrom 33 = .ok (.return_, 1) := by decide +kernel
theorem d_1_init_0 : decode cX1_init 0 = .ok (.aload_n 0, 1) := by decide +kernel
theorem d_1_init_1 : decode cX1_init 1 = .ok (.invokespecial 3, 3) := by decide +kernel
theorem d_1_init_4 : decode cX1_init 4 = .ok (.return_, 1) := by decide +kernel
theorem d_1_start_0 : decode cX1_start 0 = .ok (.aload_n 0, 1) := by decide +kernel
theorem d_1_start_1 : decode cX1_start 1 = .ok (.iconst 0, 1) := by decide +kernel
theorem d_1_start_2 : decode cX1_start 2 = .ok (.putfield 11, 3) := by decide +kernel
theorem d_1_start_5 : decode cX1_start 5 = .ok (.aload_n 0, 1) := by decide +kernel
theorem d_1_start_6 : decode cX1_start 6 = .ok (.iconst 0, 1) := by decide +kernel
theorem d_1_start_7 : decode cX1_start 7 = .ok (.putfield 15, 3) := by decide +kernel
theorem d_1_start_10 : decode cX1_start 10 = .ok (.return_, 1) := by decide +kernel
theorem d_1_take_0 : decode cX1_take 0 = .ok (.iload_n 1, 1) := by decide +kernel
theorem d_1_take_1 : decode cX1_take 1 = .ok (.invokestatic 18, 3) := by decide +kernel
theorem d_1_take_4 : decode cX1_take 4 = .ok (.ifCond .eq 8, 3) := by decide +kernel
theorem d_1_take_7 : decode cX1_take 7 = .ok (.aload_n 0, 1) := by decide +kernel
theorem d_1_take_8 : decode cX1_take 8 = .ok (.invokevirtual 22, 3) := by decide +kernel
theorem d_1_take_11 : decode cX1_take 11 = .ok (.ireturn, 1) := by decide +kernel
theorem d_1_take_12 : decode cX1_take 12 = .ok (.aload_n 0, 1) := by decide +kernel
theorem d_1_take_13 : decode cX1_take 13 = .ok (.iload_n 1, 1) := by decide +kernel
theorem d_1_take_14 : decode cX1_take 14 = .ok (.invokevirtual 26, 3) := by decide +kernel
theorem d_1_take_17 : decode cX1_take 17 = .ok (.istore_n 2, 1) := by decide +kernel
theorem d_1_take_18 : decode cX1_take 18 = .ok (.iload_n 2, 1) := by decide +kernel
theorem d_1_take_19 : decode cX1_take 19 = .ok (.iconst (-1), 1) := by decide +kernel
theorem d_1_take_20 : decode cX1_take 20 = .ok (.if_icmp .ne 5, 3) := by decide +kernel
theorem d_1_take_23 : decode cX1_take 23 = .ok (.iconst 0, 1) := by decide +kernel
theorem d_1_take_24 : decode cX1_take 24 = .ok (.ireturn, 1) := by decide +kernel
theorem d_1_take_25 : decode cX1_take 25 = .ok (.aload_n 0, 1) := by decide +kernel
theorem d_1_take_26 : decode cX1_take 26 = .ok (.iload_n 2, 1) := by decide +kernel
theorem d_1_take_27 : decode cX1_take 27 = .ok (.putfield 11, 3) := by decide +kernel
theorem d_1_take_30 : decode cX1_take 30 = .ok (.aload_n 0, 1) := by decide +kernel
theorem d_1_take_31 : decode cX1_take 31 = .ok (.iconst 0, 1) := by decide +kernel
theorem d_1_take_32 : decode cX1_take 32 = .ok (.putfield 15, 3) := by decide +kernel
theorem d_1_take_35 : decode cX1_take 35 = .ok (.iconst 1, 1) := by decide +kernel
theorem d_1_take_36 : decode cX1_take 36 = .ok (.ireturn, 1) := by decide +kernel
theorem d_1_mayEnd_0 : decode cX1_mayEnd 0 = .ok (.aload_n 0, 1) := by decide +kernel
theorem d_1_mayEnd_1 : decode cX1_mayEnd 1 = .ok (.getfield 11, 3) := by decide +kernel
theorem d_1_mayEnd_4 : decode cX1_mayEnd 4 = .ok (.iconst 1, 1) := by decide +kernel
theorem d_1_mayEnd_5 : decode cX1_mayEnd 5 = .ok (.if_icmp .eq 26, 3) := by decide +kernel
theorem d_1_mayEnd_8 : decode cX1_mayEnd 8 = .ok (.aload_n 0, 1) := by decide +kernel
theorem d_1_mayEnd_9 : decode cX1_mayEnd 9 = .ok (.getfield 11, 3) := by decide +kernel
theorem d_1_mayEnd_12 : decode cX1_mayEnd 12 = .ok (.iconst 2, 1) := by decide +kernel
theorem d_1_mayEnd_13 : decode cX1_mayEnd 13 = .ok (.if_icmp .eq 11, 3) := by decide +kernel
theorem d_1_mayEnd_16 : decode cX1_mayEnd 16 = .ok (.aload_n 0, 1) := by decide +kernel
theorem d_1_mayEnd_17 : decode cX1_mayEnd 17 = .ok (.getfield 11, 3) := by decide +kernel
theorem d_1_mayEnd_20 : decode cX1_mayEnd 20 = .ok (.iconst 5, 1) := by decide +kernel
theorem d_1_mayEnd_21 : decode cX1_mayEnd 21 = .ok (.if_icmp .ne 14, 3) := by decide +kernel
theorem d_1_mayEnd_24 : decode cX1_mayEnd 24 = .ok (.aload_n 0, 1) := by decide +kernel
theorem d_1_mayEnd_25 : decode cX1_mayEnd 25 = .ok (.getfield 15, 3) := by decide +kernel
theorem d_1_mayEnd_28 : decode cX1_mayEnd 28 = .ok (.ifCond .le 7, 3) := by decide +kernel
theorem d_1_mayEnd_31 : decode cX1_mayEnd 31 = .ok (.iconst 1, 1) := by decide +kernel
theorem d_1_mayEnd_32 : decode cX1_mayEnd 32 = .ok (.goto 4, 3) := by decide +kernel
theorem d_1_mayEnd_35 : decode cX1_mayEnd 35 = .ok (.iconst 0, 1) := by decide +kernel
theorem d_1_mayEnd_36 : decode cX1_mayEnd 36 = .ok (.ireturn, 1) := by decide +kernel
theorem d_1_takeLetter_0 : decode cX1_takeLetter 0 = .ok (.aload_n 0, 1) := by decide +kernel
theorem d_1_takeLetter_1 : decode cX1_takeLetter 1 = .ok (.getfield 11, 3) := by decide +kernel
theorem d_1_takeLetter_4 : decode cX1_takeLetter 4 = .ok (.ifCond .ne 11, 3) := by decide +kernel
theorem d_1_takeLetter_7 : decode cX1_takeLetter 7 = .ok (.aload_n 0, 1) := by decide +kernel
theorem d_1_takeLetter_8 : decode cX1_takeLetter 8 = .ok (.iconst 1, 1) := by decide +kernel
theorem d_1_takeLetter_9 : decode cX1_takeLetter 9 = .ok (.putfield 11, 3) := by decide +kernel
theorem d_1_takeLetter_12 : decode cX1_takeLetter 12 = .ok (.goto 16, 3) := by decide +kernel
theorem d_1_takeLetter_15 : decode cX1_takeLetter 15 = .ok (.aload_n 0, 1) := by decide +kernel
theorem d_1_takeLetter_16 : decode cX1_takeLetter 16 = .ok (.getfield 11, 3) := by decide +kernel
theorem d_1_takeLetter_19 : decode cX1_takeLetter 19 = .ok (.iconst 3, 1) := by decide +kernel
theorem d_1_takeLetter_20 : decode cX1_takeLetter 20 = .ok (.if_icmp .ne 8, 3) := by decide +kernel
theorem d_1_takeLetter_23 : decode cX1_takeLetter 23 = .ok (.aload_n 0, 1) := by decide +kernel
theorem d_1_takeLetter_24 : decode cX1_takeLetter 24 = .ok (.iconst 4, 1) := by decide +kernel
theorem d_1_takeLetter_25 : decode cX1_takeLetter 25 = .ok (.putfield 11, 3) := by decide +kernel
theorem d_1_takeLetter_28 : decode cX1_takeLetter 28 = .ok (.aload_n 0, 1) := by decide +kernel
theorem d_1_takeLetter_29 : decode cX1_takeLetter 29 = .ok (.dup, 1) := by decide +kernel
theorem d_1_takeLetter_30 : decode cX1_takeLetter 30 = .ok (.getfield 15, 3) := by decide +kernel
theorem d_1_takeLetter_33 : decode cX1_takeLetter 33 = .ok (.iconst 1, 1) := by decide +kernel
theorem d_1_takeLetter_34 : decode cX1_takeLetter 34 = .ok (.iadd, 1) := by decide +kernel
theorem d_1_takeLetter_35 : decode cX1_takeLetter 35 = .ok (.putfield 15, 3) := by decide +kernel
theorem d_1_takeLetter_38 : decode cX1_takeLetter 38 = .ok (.aload_n 0, 1) := by decide +kernel
theorem d_1_takeLetter_39 : decode cX1_takeLetter 39 = .ok (.getfield 15, 3) := by decide +kernel
theorem d_1_takeLetter_42 : decode cX1_takeLetter 42 = .ok (.aload_n 0, 1) := by decide +kernel
theorem d_1_takeLetter_43 : decode cX1_takeLetter 43 = .ok (.getfield 11, 3) := by decide +kernel
theorem d_1_takeLetter_46 : decode cX1_takeLetter 46 = .ok (.iconst 1, 1) := by decide +kernel
theorem d_1_takeLetter_47 : decode cX1_takeLetter 47 = .ok (.if_icmp .eq 11, 3) := by decide +kernel
theorem d_1_takeLetter_50 : decode cX1_takeLetter 50 = .ok (.aload_n 0, 1) := by decide +kernel
theorem d_1_takeLetter_51 : decode cX1_takeLetter 51 = .ok (.getfield 11, 3) := by decide +kernel
theorem d_1_takeLetter_54 : decode cX1_takeLetter 54 = .ok (.iconst 2, 1) := by decide +kernel
theorem d_1_takeLetter_55 : decode cX1_takeLetter 55 = .ok (.if_icmp .ne 8, 3) := by decide +kernel
theorem d_1_takeLetter_58 : decode cX1_takeLetter 58 = .ok (.bipush 12, 2) := by decide +kernel
theorem d_1_takeLetter_60 : decode cX1_takeLetter 60 = .ok (.goto 4, 3) := by decide +kernel
theorem d_1_takeLetter_63 : decode cX1_takeLetter 63 = .ok (.iconst 4, 1) := by decide +kernel
theorem d_1_takeLetter_64 : decode cX1_takeLetter 64 = .ok (.if_icmp .gt 7, 3) := by decide +kernel
theorem d_1_takeLetter_67 : decode cX1_takeLetter 67 = .ok (.iconst 1, 1) := by decide +kernel
theorem d_1_takeLetter_68 : decode cX1_takeLetter 68 = .ok (.goto 4, 3) := by decide +kernel
theorem d_1_takeLetter_71 : decode cX1_takeLetter 71 = .ok (.iconst 0, 1) := by decide +kernel
theorem d_1_takeLetter_72 : decode cX1_takeLetter 72 = .ok (.ireturn, 1) := by decide +kernel
theorem d_1_partAfter_0 : decode cX1_partAfter 0 = .ok (.iload_n 1, 1) := by decide +kernel
theorem d_1_partAfter_1 : decode cX1_partAfter 1 = .ok (.bipush 59, 2) := by decide +kernel
theorem d_1_partAfter_3 : decode cX1_partAfter 3 = .ok (.if_icmp .ne 16, 3) := by decide +kernel
theorem d_1_partAfter_6 : decode cX1_partAfter 6 = .ok (.aload_n 0, 1) := by decide +kernel
theorem d_1_partAfter_7 : decode cX1_partAfter 7 = .ok (.invokevirtual 30, 3) := by decide +kernel
theorem d_1_partAfter_10 : decode cX1_partAfter 10 = .ok (.ifCond .eq 7, 3) := by decide +kernel
theorem d_1_partAfter_13 : decode cX1_partAfter 13 = .ok (.iconst 0, 1) := by decide +kernel
theorem d_1_partAfter_14 : decode cX1_partAfter 14 = .ok (.goto 4, 3) := by decide +kernel
theorem d_1_partAfter_17 : decode cX1_partAfter 17 = .ok (.iconst (-1), 1) := by decide +kernel
theorem d_1_partAfter_18 : decode cX1_partAfter 18 = .ok (.ireturn, 1) := by decide +kernel
theorem d_1_partAfter_19 : decode cX1_partAfter 19 = .ok (.iload_n 1, 1) := by decide +kernel
theorem d_1_partAfter_20 : decode cX1_partAfter 20 = .ok (.bipush 61, 2) := by decide +kernel
theorem d_1_partAfter_22 : decode cX1_partAfter 22 = .ok (.if_icmp .ne 17, 3) := by decide +kernel
theorem d_1_partAfter_25 : decode cX1_partAfter 25 = .ok (.aload_n 0, 1) := by decide +kernel
theorem d_1_partAfter_26 : decode cX1_partAfter 26 = .ok (.getfield 11, 3) := by decide +kernel
theorem d_1_partAfter_29 : decode cX1_partAfter 29 = .ok (.iconst 1, 1) := by decide +kernel
theorem d_1_partAfter_30 : decode cX1_partAfter 30 = .ok (.if_icmp .ne 7, 3) := by decide +kernel
theorem d_1_partAfter_33 : decode cX1_partAfter 33 = .ok (.iconst 2, 1) := by decide +kernel
theorem d_1_partAfter_34 : decode cX1_partAfter 34 = .ok (.goto 4, 3) := by decide +kernel
theorem d_1_partAfter_37 : decode cX1_partAfter 37 = .ok (.iconst (-1), 1) := by decide +kernel
theorem d_1_partAfter_38 : decode cX1_partAfter 38 = .ok (.ireturn, 1) := by decide +kernel
theorem d_1_partAfter_39 : decode cX1_partAfter 39 = .ok (.iload_n 1, 1) := by decide +kernel
theorem d_1_partAfter_40 : decode cX1_partAfter 40 = .ok (.bipush 42, 2) := by decide +kernel
theorem d_1_partAfter_42 : decode cX1_partAfter 42 = .ok (.if_icmp .ne 16, 3) := by decide +kernel
theorem d_1_partAfter_45 : decode cX1_partAfter 45 = .ok (.aload_n 0, 1) := by decide +kernel
theorem d_1_partAfter_46 : decode cX1_partAfter 46 = .ok (.getfield 11, 3) := by decide +kernel
theorem d_1_partAfter_49 : decode cX1_partAfter 49 = .ok (.ifCond .ne 7, 3) := by decide +kernel
theorem d_1_partAfter_52 : decode cX1_partAfter 52 = .ok (.iconst 3, 1) := by decide +kernel
theorem d_1_partAfter_53 : decode cX1_partAfter 53 = .ok (.goto 4, 3) := by decide +kernel
theorem d_1_partAfter_56 : decode cX1_partAfter 56 = .ok (.iconst (-1), 1) := by decide +kernel
theorem d_1_partAfter_57 : decode cX1_partAfter 57 = .ok (.ireturn, 1) := by decide +kernel
theorem d_1_partAfter_58 : decode cX1_partAfter 58 = .ok (.iload_n 1, 1) := by decide +kernel
theorem d_1_partAfter_59 : decode cX1_partAfter 59 = .ok (.bipush 33, 2) := by decide +kernel
theorem d_1_partAfter_61 : decode cX1_partAfter 61 = .ok (.if_icmp .eq 9, 3) := by decide +kernel
theorem d_1_partAfter_64 : decode cX1_partAfter 64 = .ok (.iload_n 1, 1) := by decide +kernel
theorem d_1_partAfter_65 : decode cX1_partAfter 65 = .ok (.bipush 63, 2) := by decide +kernel
theorem d_1_partAfter_67 : decode cX1_partAfter 67 = .ok (.if_icmp .ne 17, 3) := by decide +kernel
theorem d_1_partAfter_70 : decode cX1_partAfter 70 = .ok (.aload_n 0, 1) := by decide +kernel
theorem d_1_partAfter_71 : decode cX1_partAfter 71 = .ok (.getfield 11, 3) := by decide +kernel
theorem d_1_partAfter_74 : decode cX1_partAfter 74 = .ok (.iconst 3, 1) := by decide +kernel
theorem d_1_partAfter_75 : decode cX1_partAfter 75 = .ok (.if_icmp .ne 7, 3) := by decide +kernel
theorem d_1_partAfter_78 : decode cX1_partAfter 78 = .ok (.iconst 4, 1) := by decide +kernel
theorem d_1_partAfter_79 : decode cX1_partAfter 79 = .ok (.goto 4, 3) := by decide +kernel
theorem d_1_partAfter_82 : decode cX1_partAfter 82 = .ok (.iconst (-1), 1) := by decide +kernel
theorem d_1_partAfter_83 : decode cX1_partAfter 83 = .ok (.ireturn, 1) := by decide +kernel
theorem d_1_partAfter_84 : decode cX1_partAfter 84 = .ok (.iload_n 1, 1) := by decide +kernel
theorem d_1_partAfter_85 : decode cX1_partAfter 85 = .ok (.bipush 62, 2) := by decide +kernel
theorem d_1_partAfter_87 : decode cX1_partAfter 87 = .ok (.if_icmp .ne 25, 3) := by decide +kernel
theorem d_1_partAfter_90 : decode cX1_partAfter 90 = .ok (.aload_n 0, 1) := by decide +kernel
theorem d_1_partAfter_91 : decode cX1_partAfter 91 = .ok (.getfield 11, 3) := by decide +kernel
theorem d_1_partAfter_94 : decode cX1_partAfter 94 = .ok (.iconst 3, 1) := by decide +kernel
theorem d_1_partAfter_95 : decode cX1_partAfter 95 = .ok (.if_icmp .eq 11, 3) := by decide +kernel
theorem d_1_partAfter_98 : decode cX1_partAfter 98 = .ok (.aload_n 0, 1) := by decide +kernel
theorem d_1_partAfter_99 : decode cX1_partAfter 99 = .ok (.getfield 11, 3) := by decide +kernel
theorem d_1_partAfter_102 : decode cX1_partAfter 102 = .ok (.iconst 4, 1) := by decide +kernel
theorem d_1_partAfter_103 : decode cX1_partAfter 103 = .ok (.if_icmp .ne 7, 3) := by decide +kernel
theorem d_1_partAfter_106 : decode cX1_partAfter 106 = .ok (.iconst 5, 1) := by decide +kernel
theorem d_1_partAfter_107 : decode cX1_partAfter 107 = .ok (.goto 4, 3) := by decide +kernel
theorem d_1_partAfter_110 : decode cX1_partAfter 110 = .ok (.iconst (-1), 1) := by decide +kernel
theorem d_1_partAfter_111 : decode cX1_partAfter 111 = .ok (.ireturn, 1) := by decide +kernel
theorem d_1_partAfter_112 : decode cX1_partAfter 112 = .ok (.iconst (-1), 1) := by decide +kernel
theorem d_1_partAfter_113 : decode cX1_partAfter 113 = .ok (.ireturn, 1) := by decide +kernel
theorem d_2_init_0 : decode cX2_init 0 = .ok (.aload_n 0, 1) := by decide +kernel
theorem d_2_init_1 : decode cX2_init 1 = .ok (.invokespecial 3, 3) := by decide +kernel
theorem d_2_init_4 : decode cX2_init 4 = .ok (.aload_n 0, 1) := by decide +kernel
theorem d_2_init_5 : decode cX2_init 5 = .ok (.new 9, 3) := by decide +kernel
theorem d_2_init_8 : decode cX2_init 8 = .ok (.dup, 1) := by decide +kernel
theorem d_2_init_9 : decode cX2_init 9 = .ok (.bipush 30, 2) := by decide +kernel
theorem d_2_init_11 : decode cX2_init 11 = .ok (.bipush 16, 2) := by decide +kernel
theorem d_2_init_13 : decode cX2_init 13 = .ok (.invokespecial 11, 3) := by decide +kernel
theorem d_2_init_16 : decode cX2_init 16 = .ok (.putfield 14, 3) := by decide +kernel
theorem d_2_init_19 : decode cX2_init 19 = .ok (.aload_n 0, 1) := by decide +kernel
theorem d_2_init_20 : decode cX2_init 20 = .ok (.bipush 30, 2) := by decide +kernel
theorem d_2_init_22 : decode cX2_init 22 = .ok (.newarray .int, 2) := by decide +kernel
theorem d_2_init_24 : decode cX2_init 24 = .ok (.putfield 20, 3) := by decide +kernel
theorem d_2_init_27 : decode cX2_init 27 = .ok (.aload_n 0, 1) := by decide +kernel
theorem d_2_init_28 : decode cX2_init 28 = .ok (.bipush 30, 2) := by decide +kernel
theorem d_2_init_30 : decode cX2_init 30 = .ok (.newarray .int, 2) := by decide +kernel
theorem d_2_init_32 : decode cX2_init 32 = .ok (.putfield 24, 3) := by decide +kernel
theorem d_2_init_35 : decode cX2_init 35 = .ok (.return_, 1) := by decide +kernel
theorem d_2_count_0 : decode cX2_count 0 = .ok (.aload_n 0, 1) := by decide +kernel
theorem d_2_count_1 : decode cX2_count 1 = .ok (.getfield 14, 3) := by decide +kernel
theorem d_2_count_4 : decode cX2_count 4 = .ok (.invokevirtual 27, 3) := by decide +kernel
theorem d_2_count_7 : decode cX2_count 7 = .ok (.ireturn, 1) := by decide +kernel
theorem d_2_isFull_0 : decode cX2_isFull 0 = .ok (.aload_n 0, 1) := by decide +kernel
theorem d_2_isFull_1 : decode cX2_isFull 1 = .ok (.getfield 14, 3) := by decide +kernel
theorem d_2_isFull_4 : decode cX2_isFull 4 = .ok (.invokevirtual 31, 3) := by decide +kernel
theorem d_2_isFull_7 : decode cX2_isFull 7 = .ok (.ireturn, 1) := by decide +kernel
theorem d_2_ownerOf_0 : decode cX2_ownerOf 0 = .ok (.iload_n 1, 1) := by decide +kernel
theorem d_2_ownerOf_1 : decode cX2_ownerOf 1 = .ok (.ifCond .lt 21, 3) := by decide +kernel
theorem d_2_ownerOf_4 : decode cX2_ownerOf 4 = .ok (.iload_n 1, 1) := by decide +kernel
theorem d_2_ownerOf_5 : decode cX2_ownerOf 5 = .ok (.aload_n 0, 1) := by decide +kernel
theorem d_2_ownerOf_6 : decode cX2_ownerOf 6 = .ok (.getfield 20, 3) := by decide +kernel
theorem d_2_ownerOf_9 : decode cX2_ownerOf 9 = .ok (.arraylength, 1) := by decide +kernel
theorem d_2_ownerOf_10 : decode cX2_ownerOf 10 = .ok (.if_icmp .ge 12, 3) := by decide +kernel
theorem d_2_ownerOf_13 : decode cX2_ownerOf 13 = .ok (.aload_n 0, 1) := by decide +kernel
theorem d_2_ownerOf_14 : decode cX2_ownerOf 14 = .ok (.getfield 20, 3) := by decide +kernel
theorem d_2_ownerOf_17 : decode cX2_ownerOf 17 = .ok (.iload_n 1, 1) := by decide +kernel
theorem d_2_ownerOf_18 : decode cX2_ownerOf 18 = .ok (.iaload, 1) := by decide +kernel
theorem d_2_ownerOf_19 : decode cX2_ownerOf 19 = .ok (.goto 4, 3) := by decide +kernel
theorem d_2_ownerOf_22 : decode cX2_ownerOf 22 = .ok (.iconst (-1), 1) := by decide +kernel
theorem d_2_ownerOf_23 : decode cX2_ownerOf 23 = .ok (.ireturn, 1) := by decide +kernel
theorem d_2_coinsIn_0 : decode cX2_coinsIn 0 = .ok (.iload_n 1, 1) := by decide +kernel
theorem d_2_coinsIn_1 : decode cX2_coinsIn 1 = .ok (.ifCond .lt 21, 3) := by decide +kernel
theorem d_2_coinsIn_4 : decode cX2_coinsIn 4 = .ok (.iload_n 1, 1) := by decide +kernel
theorem d_2_coinsIn_5 : decode cX2_coinsIn 5 = .ok (.aload_n 0, 1) := by decide +kernel
theorem d_2_coinsIn_6 : decode cX2_coinsIn 6 = .ok (.getfield 24, 3) := by decide +kernel
theorem d_2_coinsIn_9 : decode cX2_coinsIn 9 = .ok (.arraylength, 1) := by decide +kernel
theorem d_2_coinsIn_10 : decode cX2_coinsIn 10 = .ok (.if_icmp .ge 12, 3) := by decide +kernel
theorem d_2_coinsIn_13 : decode cX2_coinsIn 13 = .ok (.aload_n 0, 1) := by decide +kernel
theorem d_2_coinsIn_14 : decode cX2_coinsIn 14 = .ok (.getfield 24, 3) := by decide +kernel
theorem d_2_coinsIn_17 : decode cX2_coinsIn 17 = .ok (.iload_n 1, 1) := by decide +kernel
theorem d_2_coinsIn_18 : decode cX2_coinsIn 18 = .ok (.iaload, 1) := by decide +kernel
theorem d_2_coinsIn_19 : decode cX2_coinsIn 19 = .ok (.goto 4, 3) := by decide +kernel
theorem d_2_coinsIn_22 : decode cX2_coinsIn 22 = .ok (.iconst 0, 1) := by decide +kernel
theorem d_2_coinsIn_23 : decode cX2_coinsIn 23 = .ok (.ireturn, 1) := by decide +kernel
theorem d_2_bears_0 : decode cX2_bears 0 = .ok (.aload_n 0, 1) := by decide +kernel
theorem d_2_bears_1 : decode cX2_bears 1 = .ok (.getfield 14, 3) := by decide +kernel
theorem d_2_bears_4 : decode cX2_bears 4 = .ok (.iload_n 1, 1) := by decide +kernel
theorem d_2_bears_5 : decode cX2_bears 5 = .ok (.aload_n 2, 1) := by decide +kernel
theorem d_2_bears_6 : decode cX2_bears 6 = .ok (.invokevirtual 35, 3) := by decide +kernel
theorem d_2_bears_9 : decode cX2_bears 9 = .ok (.ireturn, 1) := by decide +kernel
theorem d_2_find_0 : decode cX2_find 0 = .ok (.iconst 0, 1) := by decide +kernel
theorem d_2_find_1 : decode cX2_find 1 = .ok (.istore_n 3, 1) := by decide +kernel
theorem d_2_find_2 : decode cX2_find 2 = .ok (.iload_n 3, 1) := by decide +kernel
theorem d_2_find_3 : decode cX2_find 3 = .ok (.aload_n 0, 1) := by decide +kernel
theorem d_2_find_4 : decode cX2_find 4 = .ok (.invokevirtual 39, 3) := by decide +kernel
theorem d_2_find_7 : decode cX2_find 7 = .ok (.if_icmp .ge 29, 3) := by decide +kernel
theorem d_2_find_10 : decode cX2_find 10 = .ok (.aload_n 0, 1) := by decide +kernel
theorem d_2_find_11 : decode cX2_find 11 = .ok (.iload_n 3, 1) := by decide +kernel
theorem d_2_find_12 : decode cX2_find 12 = .ok (.invokevirtual 40, 3) := by decide +kernel
theorem d_2_find_15 : decode cX2_find 15 = .ok (.iload_n 1, 1) := by decide +kernel
theorem d_2_find_16 : decode cX2_find 16 = .ok (.if_icmp .ne 14, 3) := by decide +kernel
theorem d_2_find_19 : decode cX2_find 19 = .ok (.aload_n 0, 1) := by decide +kernel
theorem d_2_find_20 : decode cX2_find 20 = .ok (.iload_n 3, 1) := by decide +kernel
theorem d_2_find_21 : decode cX2_find 21 = .ok (.aload_n 2, 1) := by decide +kernel
theorem d_2_find_22 : decode cX2_find 22 = .ok (.invokevirtual 44, 3) := by decide +kernel
theorem d_2_find_25 : decode cX2_find 25 = .ok (.ifCond .eq 5, 3) := by decide +kernel
theorem d_2_find_28 : decode cX2_find 28 = .ok (.iload_n 3, 1) := by decide +kernel
theorem d_2_find_29 : decode cX2_find 29 = .ok (.ireturn, 1) := by decide +kernel
theorem d_2_find_30 : decode cX2_find 30 = .ok (.iinc 3 1, 3) := by decide +kernel
theorem d_2_find_33 : decode cX2_find 33 = .ok (.goto (-31), 3) := by decide +kernel
theorem d_2_find_36 : decode cX2_find 36 = .ok (.iconst (-1), 1) := by decide +kernel
theorem d_2_find_37 : decode cX2_find 37 = .ok (.ireturn, 1) := by decide +kernel
theorem d_2_coinsWith_0 : decode cX2_coinsWith 0 = .ok (.iconst 0, 1) := by decide +kernel
theorem d_2_coinsWith_1 : decode cX2_coinsWith 1 = .ok (.istore_n 2, 1) := by decide +kernel
theorem d_2_coinsWith_2 : decode cX2_coinsWith 2 = .ok (.iconst 0, 1) := by decide +kernel
theorem d_2_coinsWith_3 : decode cX2_coinsWith 3 = .ok (.istore_n 3, 1) := by decide +kernel
theorem d_2_coinsWith_4 : decode cX2_coinsWith 4 = .ok (.iload_n 3, 1) := by decide +kernel
theorem d_2_coinsWith_5 : decode cX2_coinsWith 5 = .ok (.aload_n 0, 1) := by decide +kernel
theorem d_2_coinsWith_6 : decode cX2_coinsWith 6 = .ok (.invokevirtual 39, 3) := by decide +kernel
theorem d_2_coinsWith_9 : decode cX2_coinsWith 9 = .ok (.if_icmp .ge 26, 3) := by decide +kernel
theorem d_2_coinsWith_12 : decode cX2_coinsWith 12 = .ok (.aload_n 0, 1) := by decide +kernel
theorem d_2_coinsWith_13 : decode cX2_coinsWith 13 = .ok (.iload_n 3, 1) := by decide +kernel
theorem d_2_coinsWith_14 : decode cX2_coinsWith 14 = .ok (.invokevirtual 40, 3) := by decide +kernel
theorem d_2_coinsWith_17 : decode cX2_coinsWith 17 = .ok (.iload_n 1, 1) := by decide +kernel
theorem d_2_coinsWith_18 : decode cX2_coinsWith 18 = .ok (.if_icmp .ne 11, 3) := by decide +kernel
theorem d_2_coinsWith_21 : decode cX2_coinsWith 21 = .ok (.iload_n 2, 1) := by decide +kernel
theorem d_2_coinsWith_22 : decode cX2_coinsWith 22 = .ok (.aload_n 0, 1) := by decide +kernel
theorem d_2_coinsWith_23 : decode cX2_coinsWith 23 = .ok (.iload_n 3, 1) := by decide +kernel
theorem d_2_coinsWith_24 : decode cX2_coinsWith 24 = .ok (.invokevirtual 47, 3) := by decide +kernel
theorem d_2_coinsWith_27 : decode cX2_coinsWith 27 = .ok (.iadd, 1) := by decide +kernel
theorem d_2_coinsWith_28 : decode cX2_coinsWith 28 = .ok (.istore_n 2, 1) := by decide +kernel
theorem d_2_coinsWith_29 : decode cX2_coinsWith 29 = .ok (.iinc 3 1, 3) := by decide +kernel
theorem d_2_coinsWith_32 : decode cX2_coinsWith 32 = .ok (.goto (-28), 3) := by decide +kernel
theorem d_2_coinsWith_35 : decode cX2_coinsWith 35 = .ok (.iload_n 2, 1) := by decide +kernel
theorem d_2_coinsWith_36 : decode cX2_coinsWith 36 = .ok (.ireturn, 1) := by decide +kernel
theorem d_2_open_0 : decode cX2_open 0 = .ok (.aload_n 0, 1) := by decide +kernel
theorem d_2_open_1 : decode cX2_open 1 = .ok (.invokevirtual 39, 3) := by decide +kernel
theorem d_2_open_4 : decode cX2_open 4 = .ok (.istore 4, 2) := by decide +kernel
theorem d_2_open_6 : decode cX2_open 6 = .ok (.iload 4, 2) := by decide +kernel
theorem d_2_open_8 : decode cX2_open 8 = .ok (.ifCond .lt 48, 3) := by decide +kernel
theorem d_2_open_11 : decode cX2_open 11 = .ok (.iload 4, 2) := by decide +kernel
theorem d_2_open_13 : decode cX2_open 13 = .ok (.aload_n 0, 1) := by decide +kernel
theorem d_2_open_14 : decode cX2_open 14 = .ok (.getfield 20, 3) := by decide +kernel
theorem d_2_open_17 : decode cX2_open 17 = .ok (.arraylength, 1) := by decide +kernel
theorem d_2_open_18 : decode cX2_open 18 = .ok (.if_icmp .ge 38, 3) := by decide +kernel
theorem d_2_open_21 : decode cX2_open 21 = .ok (.iload 4, 2) := by decide +kernel
theorem d_2_open_23 : decode cX2_open 23 = .ok (.aload_n 0, 1) := by decide +kernel
theorem d_2_open_24 : decode cX2_open 24 = .ok (.getfield 24, 3) := by decide +kernel
theorem d_2_open_27 : decode cX2_open 27 = .ok (.arraylength, 1) := by decide +kernel
theorem d_2_open_28 : decode cX2_open 28 = .ok (.if_icmp .ge 28, 3) := by decide +kernel
theorem d_2_open_31 : decode cX2_open 31 = .ok (.aload_n 0, 1) := by decide +kernel
theorem d_2_open_32 : decode cX2_open 32 = .ok (.getfield 14, 3) := by decide +kernel
theorem d_2_open_35 : decode cX2_open 35 = .ok (.aload_n 2, 1) := by decide +kernel
theorem d_2_open_36 : decode cX2_open 36 = .ok (.invokevirtual 50, 3) := by decide +kernel
theorem d_2_open_39 : decode cX2_open 39 = .ok (.pop, 1) := by decide +kernel
theorem d_2_open_40 : decode cX2_open 40 = .ok (.aload_n 0, 1) := by decide +kernel
theorem d_2_open_41 : decode cX2_open 41 = .ok (.getfield 20, 3) := by decide +kernel
theorem d_2_open_44 : decode cX2_open 44 = .ok (.iload 4, 2) := by decide +kernel
theorem d_2_open_46 : decode cX2_open 46 = .ok (.iload_n 1, 1) := by decide +kernel
theorem d_2_open_47 : decode cX2_open 47 = .ok (.iastore, 1) := by decide +kernel
theorem d_2_open_48 : decode cX2_open 48 = .ok (.aload_n 0, 1) := by decide +kernel
theorem d_2_open_49 : decode cX2_open 49 = .ok (.getfield 24, 3) := by decide +kernel
theorem d_2_open_52 : decode cX2_open 52 = .ok (.iload 4, 2) := by decide +kernel
theorem d_2_open_54 : decode cX2_open 54 = .ok (.iload_n 3, 1) := by decide +kernel
theorem d_2_open_55 : decode cX2_open 55 = .ok (.iastore, 1) := by decide +kernel
theorem d_2_open_56 : decode cX2_open 56 = .ok (.return_, 1) := by decide +kernel
theorem d_2_enlarge_0 : decode cX2_enlarge 0 = .ok (.iload_n 1, 1) := by decide +kernel
theorem d_2_enlarge_1 : decode cX2_enlarge 1 = .ok (.ifCond .lt 22, 3) := by decide +kernel
theorem d_2_enlarge_4 : decode cX2_enlarge 4 = .ok (.iload_n 1, 1) := by decide +kernel
theorem d_2_enlarge_5 : decode cX2_enlarge 5 = .ok (.aload_n 0, 1) := by decide +kernel
theorem d_2_enlarge_6 : decode cX2_enlarge 6 = .ok (.getfield 24, 3) := by decide +kernel
theorem d_2_enlarge_9 : decode cX2_enlarge 9 = .ok (.arraylength, 1) := by decide +kernel
theorem d_2_enlarge_10 : decode cX2_enlarge 10 = .ok (.if_icmp .ge 13, 3) := by decide +kernel
theorem d_2_enlarge_13 : decode cX2_enlarge 13 = .ok (.aload_n 0, 1) := by decide +kernel
theorem d_2_enlarge_14 : decode cX2_enlarge 14 = .ok (.getfield 24, 3) := by decide +kernel
theorem d_2_enlarge_17 : decode cX2_enlarge 17 = .ok (.iload_n 1, 1) := by decide +kernel
theorem d_2_enlarge_18 : decode cX2_enlarge 18 = .ok (.dup2, 1) := by decide +kernel
theorem d_2_enlarge_19 : decode cX2_enlarge 19 = .ok (.iaload, 1) := by decide +kernel
theorem d_2_enlarge_20 : decode cX2_enlarge 20 = .ok (.iload_n 2, 1) := by decide +kernel
theorem d_2_enlarge_21 : decode cX2_enlarge 21 = .ok (.iadd, 1) := by decide +kernel
theorem d_2_enlarge_22 : decode cX2_enlarge 22 = .ok (.iastore, 1) := by decide +kernel
theorem d_2_enlarge_23 : decode cX2_enlarge 23 = .ok (.return_, 1) := by decide +kernel
theorem d_2_empty_0 : decode cX2_empty 0 = .ok (.iload_n 1, 1) := by decide +kernel
theorem d_2_empty_1 : decode cX2_empty 1 = .ok (.ifCond .lt 19, 3) := by decide +kernel
theorem d_2_empty_4 : decode cX2_empty 4 = .ok (.iload_n 1, 1) := by decide +kernel
theorem d_2_empty_5 : decode cX2_empty 5 = .ok (.aload_n 0, 1) := by decide +kernel
theorem d_2_empty_6 : decode cX2_empty 6 = .ok (.getfield 24, 3) := by decide +kernel
theorem d_2_empty_9 : decode cX2_empty 9 = .ok (.arraylength, 1) := by decide +kernel
theorem d_2_empty_10 : decode cX2_empty 10 = .ok (.if_icmp .ge 10, 3) := by decide +kernel
theorem d_2_empty_13 : decode cX2_empty 13 = .ok (.aload_n 0, 1) := by decide +kernel
theorem d_2_empty_14 : decode cX2_empty 14 = .ok (.getfield 24, 3) := by decide +kernel
theorem d_2_empty_17 : decode cX2_empty 17 = .ok (.iload_n 1, 1) := by decide +kernel
theorem d_2_empty_18 : decode cX2_empty 18 = .ok (.iconst 0, 1) := by decide +kernel
theorem d_2_empty_19 : decode cX2_empty 19 = .ok (.iastore, 1) := by decide +kernel
theorem d_2_empty_20 : decode cX2_empty 20 = .ok (.return_, 1) := by decide +kernel
theorem d_2_takeOldest_0 : decode cX2_takeOldest 0 = .ok (.iload_n 2, 1) := by decide +kernel
theorem d_2_takeOldest_1 : decode cX2_takeOldest 1 = .ok (.istore_n 3, 1) := by decide +kernel
theorem d_2_takeOldest_2 : decode cX2_takeOldest 2 = .ok (.iconst 0, 1) := by decide +kernel
theorem d_2_takeOldest_3 : decode cX2_takeOldest 3 = .ok (.istore 4, 2) := by decide +kernel
theorem d_2_takeOldest_5 : decode cX2_takeOldest 5 = .ok (.iload 4, 2) := by decide +kernel
theorem d_2_takeOldest_7 : decode cX2_takeOldest 7 = .ok (.aload_n 0, 1) := by decide +kernel
theorem d_2_takeOldest_8 : decode cX2_takeOldest 8 = .ok (.invokevirtual 39, 3) := by decide +kernel
theorem d_2_takeOldest_11 : decode cX2_takeOldest 11 = .ok (.if_icmp .ge 45, 3) := by decide +kernel
theorem d_2_takeOldest_14 : decode cX2_takeOldest 14 = .ok (.aload_n 0, 1) := by decide +kernel
theorem d_2_takeOldest_15 : decode cX2_takeOldest 15 = .ok (.iload 4, 2) := by decide +kernel
theorem d_2_takeOldest_17 : decode cX2_takeOldest 17 = .ok (.invokevirtual 40, 3) := by decide +kernel
theorem d_2_takeOldest_20 : decode cX2_takeOldest 20 = .ok (.iload_n 1, 1) := by decide +kernel
theorem d_2_takeOldest_21 : decode cX2_takeOldest 21 = .ok (.if_icmp .ne 29, 3) := by decide +kernel
theorem d_2_takeOldest_24 : decode cX2_takeOldest 24 = .ok (.iload_n 3, 1) := by decide +kernel
theorem d_2_takeOldest_25 : decode cX2_takeOldest 25 = .ok (.aload_n 0, 1) := by decide +kernel
theorem d_2_takeOldest_26 : decode cX2_takeOldest 26 = .ok (.iload 4, 2) := by decide +kernel
theorem d_2_takeOldest_28 : decode cX2_takeOldest 28 = .ok (.invokevirtual 47, 3) := by decide +kernel
theorem d_2_takeOldest_31 : decode cX2_takeOldest 31 = .ok (.invokestatic 54, 3) := by decide +kernel
theorem d_2_takeOldest_34 : decode cX2_takeOldest 34 = .ok (.istore 5, 2) := by decide +kernel
theorem d_2_takeOldest_36 : decode cX2_takeOldest 36 = .ok (.aload_n 0, 1) := by decide +kernel
theorem d_2_takeOldest_37 : decode cX2_takeOldest 37 = .ok (.iload 4, 2) := by decide +kernel
theorem d_2_takeOldest_39 : decode cX2_takeOldest 39 = .ok (.iload 5, 2) := by decide +kernel
theorem d_2_takeOldest_41 : decode cX2_takeOldest 41 = .ok (.ineg, 1) := by decide +kernel
theorem d_2_takeOldest_42 : decode cX2_takeOldest 42 = .ok (.invokevirtual 60, 3) := by decide +kernel
theorem d_2_takeOldest_45 : decode cX2_takeOldest 45 = .ok (.iload_n 3, 1) := by decide +kernel
theorem d_2_takeOldest_46 : decode cX2_takeOldest 46 = .ok (.iload 5, 2) := by decide +kernel
theorem d_2_takeOldest_48 : decode cX2_takeOldest 48 = .ok (.isub, 1) := by decide +kernel
theorem d_2_takeOldest_49 : decode cX2_takeOldest 49 = .ok (.istore_n 3, 1) := by decide +kernel
theorem d_2_takeOldest_50 : decode cX2_takeOldest 50 = .ok (.iinc 4 1, 3) := by decide +kernel
theorem d_2_takeOldest_53 : decode cX2_takeOldest 53 = .ok (.goto (-48), 3) := by decide +kernel
theorem d_2_takeOldest_56 : decode cX2_takeOldest 56 = .ok (.aload_n 0, 1) := by decide +kernel
theorem d_2_takeOldest_57 : decode cX2_takeOldest 57 = .ok (.invokevirtual 63, 3) := by decide +kernel
theorem d_2_takeOldest_60 : decode cX2_takeOldest 60 = .ok (.return_, 1) := by decide +kernel
theorem d_2_removeEmpty_0 : decode cX2_removeEmpty 0 = .ok (.aload_n 0, 1) := by decide +kernel
theorem d_2_removeEmpty_1 : decode cX2_removeEmpty 1 = .ok (.invokevirtual 39, 3) := by decide +kernel
theorem d_2_removeEmpty_4 : decode cX2_removeEmpty 4 = .ok (.iconst 1, 1) := by decide +kernel
theorem d_2_removeEmpty_5 : decode cX2_removeEmpty 5 = .ok (.isub, 1) := by decide +kernel
theorem d_2_removeEmpty_6 : decode cX2_removeEmpty 6 = .ok (.istore_n 1, 1) := by decide +kernel
theorem d_2_removeEmpty_7 : decode cX2_removeEmpty 7 = .ok (.iload_n 1, 1) := by decide +kernel
theorem d_2_removeEmpty_8 : decode cX2_removeEmpty 8 = .ok (.ifCond .lt 41, 3) := by decide +kernel
theorem d_2_removeEmpty_11 : decode cX2_removeEmpty 11 = .ok (.aload_n 0, 1) := by decide +kernel
theorem d_2_removeEmpty_12 : decode cX2_removeEmpty 12 = .ok (.iload_n 1, 1) := by decide +kernel
theorem d_2_removeEmpty_13 : decode cX2_removeEmpty 13 = .ok (.invokevirtual 47, 3) := by decide +kernel
theorem d_2_removeEmpty_16 : decode cX2_removeEmpty 16 = .ok (.ifCond .ne 27, 3) := by decide +kernel
theorem d_2_removeEmpty_19 : decode cX2_removeEmpty 19 = .ok (.aload_n 0, 1) := by decide +kernel
theorem d_2_removeEmpty_20 : decode cX2_removeEmpty 20 = .ok (.getfield 14, 3) := by decide +kernel
theorem d_2_removeEmpty_23 : decode cX2_removeEmpty 23 = .ok (.iload_n 1, 1) := by decide +kernel
theorem d_2_removeEmpty_24 : decode cX2_removeEmpty 24 = .ok (.invokevirtual 66, 3) := by decide +kernel
theorem d_2_removeEmpty_27 : decode cX2_removeEmpty 27 = .ok (.aload_n 0, 1) := by decide +kernel
theorem d_2_removeEmpty_28 : decode cX2_removeEmpty 28 = .ok (.getfield 20, 3) := by decide +kernel
theorem d_2_removeEmpty_31 : decode cX2_removeEmpty 31 = .ok (.iload_n 1, 1) := by decide +kernel
theorem d_2_removeEmpty_32 : decode cX2_removeEmpty 32 = .ok (.invokestatic 70, 3) := by decide +kernel
theorem d_2_removeEmpty_35 : decode cX2_removeEmpty 35 = .ok (.aload_n 0, 1) := by decide +kernel
theorem d_2_removeEmpty_36 : decode cX2_removeEmpty 36 = .ok (.getfield 24, 3) := by decide +kernel
theorem d_2_removeEmpty_39 : decode cX2_removeEmpty 39 = .ok (.iload_n 1, 1) := by decide +kernel
theorem d_2_removeEmpty_40 : decode cX2_removeEmpty 40 = .ok (.invokestatic 70, 3) := by decide +kernel
theorem d_2_removeEmpty_43 : decode cX2_removeEmpty 43 = .ok (.iinc 1 (-1), 3) := by decide +kernel
theorem d_2_removeEmpty_46 : decode cX2_removeEmpty 46 = .ok (.goto (-39), 3) := by decide +kernel
theorem d_2_removeEmpty_49 : decode cX2_removeEmpty 49 = .ok (.return_, 1) := by decide +kernel
theorem d_2_copyFrom_0 : decode cX2_copyFrom 0 = .ok (.aload_n 0, 1) := by decide +kernel
theorem d_2_copyFrom_1 : decode cX2_copyFrom 1 = .ok (.getfield 14, 3) := by decide +kernel
theorem d_2_copyFrom_4 : decode cX2_copyFrom 4 = .ok (.aload_n 1, 1) := by decide +kernel
theorem d_2_copyFrom_5 : decode cX2_copyFrom 5 = .ok (.getfield 14, 3) := by decide +kernel
theorem d_2_copyFrom_8 : decode cX2_copyFrom 8 = .ok (.invokevirtual 74, 3) := by decide +kernel
theorem d_2_copyFrom_11 : decode cX2_copyFrom 11 = .ok (.aload_n 1, 1) := by decide +kernel
theorem d_2_copyFrom_12 : decode cX2_copyFrom 12 = .ok (.getfield 20, 3) := by decide +kernel
theorem d_2_copyFrom_15 : decode cX2_copyFrom 15 = .ok (.aload_n 0, 1) := by decide +kernel
theorem d_2_copyFrom_16 : decode cX2_copyFrom 16 = .ok (.getfield 20, 3) := by decide +kernel
theorem d_2_copyFrom_19 : decode cX2_copyFrom 19 = .ok (.invokestatic 78, 3) := by decide +kernel
theorem d_2_copyFrom_22 : decode cX2_copyFrom 22 = .ok (.aload_n 1, 1) := by decide +kernel
theorem d_2_copyFrom_23 : decode cX2_copyFrom 23 = .ok (.getfield 24, 3) := by decide +kernel
theorem d_2_copyFrom_26 : decode cX2_copyFrom 26 = .ok (.aload_n 0, 1) := by decide +kernel
theorem d_2_copyFrom_27 : decode cX2_copyFrom 27 = .ok (.getfield 24, 3) := by decide +kernel
theorem d_2_copyFrom_30 : decode cX2_copyFrom 30 = .ok (.invokestatic 78, 3) := by decide +kernel
theorem d_2_copyFrom_33 : decode cX2_copyFrom 33 = .ok (.return_, 1) := by decide +kernel
theorem d_3_init_0 : decode cX3_init 0 = .ok (.aload_n 0, 1) := by decide +kernel
theorem d_3_init_1 : decode cX3_init 1 = .ok (.invokespecial 3, 3) := by decide +kernel
theorem d_3_init_4 : decode cX3_init 4 = .ok (.aload_n 0, 1) := by decide +kernel
theorem d_3_init_5 : decode cX3_init 5 = .ok (.iconst 4, 1) := by decide +kernel
theorem d_3_init_6 : decode cX3_init 6 = .ok (.anewarray 9, 3) := by decide +kernel
theorem d_3_init_9 : decode cX3_init 9 = .ok (.putfield 11, 3) := by decide +kernel
theorem d_3_init_12 : decode cX3_init 12 = .ok (.iconst 0, 1) := by decide +kernel
theorem d_3_init_13 : decode cX3_init 13 = .ok (.istore_n 1, 1) := by decide +kernel
theorem d_3_init_14 : decode cX3_init 14 = .ok (.iload_n 1, 1) := by decide +kernel
theorem d_3_init_15 : decode cX3_init 15 = .ok (.aload_n 0, 1) := by decide +kernel
theorem d_3_init_16 : decode cX3_init 16 = .ok (.getfield 11, 3) := by decide +kernel
theorem d_3_init_19 : decode cX3_init 19 = .ok (.arraylength, 1) := by decide +kernel
theorem d_3_init_20 : decode cX3_init 20 = .ok (.if_icmp .ge 22, 3) := by decide +kernel
theorem d_3_init_23 : decode cX3_init 23 = .ok (.aload_n 0, 1) := by decide +kernel
theorem d_3_init_24 : decode cX3_init 24 = .ok (.getfield 11, 3) := by decide +kernel
theorem d_3_init_27 : decode cX3_init 27 = .ok (.iload_n 1, 1) := by decide +kernel
theorem d_3_init_28 : decode cX3_init 28 = .ok (.new 9, 3) := by decide +kernel
theorem d_3_init_31 : decode cX3_init 31 = .ok (.dup, 1) := by decide +kernel
theorem d_3_init_32 : decode cX3_init 32 = .ok (.invokespecial 17, 3) := by decide +kernel
theorem d_3_init_35 : decode cX3_init 35 = .ok (.aastore, 1) := by decide +kernel
theorem d_3_init_36 : decode cX3_init 36 = .ok (.iinc 1 1, 3) := by decide +kernel
theorem d_3_init_39 : decode cX3_init 39 = .ok (.goto (-25), 3) := by decide +kernel
theorem d_3_init_42 : decode cX3_init 42 = .ok (.return_, 1) := by decide +kernel
theorem d_3_count_0 : decode cX3_count 0 = .ok (.aload_n 0, 1) := by decide +kernel
theorem d_3_count_1 : decode cX3_count 1 = .ok (.getfield 18, 3) := by decide +kernel
theorem d_3_count_4 : decode cX3_count 4 = .ok (.ireturn, 1) := by decide +kernel
theorem d_3_record_0 : decode cX3_record 0 = .ok (.aload_n 0, 1) := by decide +kernel
theorem d_3_record_1 : decode cX3_record 1 = .ok (.getfield 18, 3) := by decide +kernel
theorem d_3_record_4 : decode cX3_record 4 = .ok (.aload_n 0, 1) := by decide +kernel
theorem d_3_record_5 : decode cX3_record 5 = .ok (.getfield 11, 3) := by decide +kernel
theorem d_3_record_8 : decode cX3_record 8 = .ok (.arraylength, 1) := by decide +kernel
theorem d_3_record_9 : decode cX3_record 9 = .ok (.if_icmp .lt 18, 3) := by decide +kernel
theorem d_3_record_12 : decode cX3_record 12 = .ok (.aload_n 0, 1) := by decide +kernel
theorem d_3_record_13 : decode cX3_record 13 = .ok (.invokevirtual 22, 3) := by decide +kernel
theorem d_3_record_16 : decode cX3_record 16 = .ok (.aload_n 0, 1) := by decide +kernel
theorem d_3_record_17 : decode cX3_record 17 = .ok (.aload_n 0, 1) := by decide +kernel
theorem d_3_record_18 : decode cX3_record 18 = .ok (.getfield 11, 3) := by decide +kernel
theorem d_3_record_21 : decode cX3_record 21 = .ok (.arraylength, 1) := by decide +kernel
theorem d_3_record_22 : decode cX3_record 22 = .ok (.iconst 1, 1) := by decide +kernel
theorem d_3_record_23 : decode cX3_record 23 = .ok (.isub, 1) := by decide +kernel
theorem d_3_record_24 : decode cX3_record 24 = .ok (.putfield 18, 3) := by decide +kernel
theorem d_3_record_27 : decode cX3_record 27 = .ok (.aload_n 0, 1) := by decide +kernel
theorem d_3_record_28 : decode cX3_record 28 = .ok (.getfield 18, 3) := by decide +kernel
theorem d_3_record_31 : decode cX3_record 31 = .ok (.ifCond .lt 50, 3) := by decide +kernel
theorem d_3_record_34 : decode cX3_record 34 = .ok (.aload_n 0, 1) := by decide +kernel
theorem d_3_record_35 : decode cX3_record 35 = .ok (.getfield 18, 3) := by decide +kernel
theorem d_3_record_38 : decode cX3_record 38 = .ok (.aload_n 0, 1) := by decide +kernel
theorem d_3_record_39 : decode cX3_record 39 = .ok (.getfield 11, 3) := by decide +kernel
theorem d_3_record_42 : decode cX3_record 42 = .ok (.arraylength, 1) := by decide +kernel
theorem d_3_record_43 : decode cX3_record 43 = .ok (.if_icmp .ge 38, 3) := by decide +kernel
theorem d_3_record_46 : decode cX3_record 46 = .ok (.aload_n 0, 1) := by decide +kernel
theorem d_3_record_47 : decode cX3_record 47 = .ok (.getfield 11, 3) := by decide +kernel
theorem d_3_record_50 : decode cX3_record 50 = .ok (.aload_n 0, 1) := by decide +kernel
theorem d_3_record_51 : decode cX3_record 51 = .ok (.getfield 18, 3) := by decide +kernel
theorem d_3_record_54 : decode cX3_record 54 = .ok (.aaload, 1) := by decide +kernel
theorem d_3_record_55 : decode cX3_record 55 = .ok (.ifnull 26, 3) := by decide +kernel
theorem d_3_record_58 : decode cX3_record 58 = .ok (.aload_n 0, 1) := by decide +kernel
theorem d_3_record_59 : decode cX3_record 59 = .ok (.getfield 11, 3) := by decide +kernel
theorem d_3_record_62 : decode cX3_record 62 = .ok (.aload_n 0, 1) := by decide +kernel
theorem d_3_record_63 : decode cX3_record 63 = .ok (.getfield 18, 3) := by decide +kernel
theorem d_3_record_66 : decode cX3_record 66 = .ok (.aaload, 1) := by decide +kernel
theorem d_3_record_67 : decode cX3_record 67 = .ok (.aload_n 1, 1) := by decide +kernel
theorem d_3_record_68 : decode cX3_record 68 = .ok (.invokevirtual 25, 3) := by decide +kernel
theorem d_3_record_71 : decode cX3_record 71 = .ok (.aload_n 0, 1) := by decide +kernel
theorem d_3_record_72 : decode cX3_record 72 = .ok (.dup, 1) := by decide +kernel
theorem d_3_record_73 : decode cX3_record 73 = .ok (.getfield 18, 3) := by decide +kernel
theorem d_3_record_76 : decode cX3_record 76 = .ok (.iconst 1, 1) := by decide +kernel
theorem d_3_record_77 : decode cX3_record 77 = .ok (.iadd, 1) := by decide +kernel
theorem d_3_record_78 : decode cX3_record 78 = .ok (.putfield 18, 3) := by decide +kernel
theorem d_3_record_81 : decode cX3_record 81 = .ok (.return_, 1) := by decide +kernel
theorem d_3_moveOldestToEnd_0 : decode cX3_moveOldestToEnd 0 = .ok (.iconst 0, 1) := by decide +kernel
theorem d_3_moveOldestToEnd_1 : decode cX3_moveOldestToEnd 1 = .ok (.istore_n 1, 1) := by decide +kernel
theorem d_3_moveOldestToEnd_2 : decode cX3_moveOldestToEnd 2 = .ok (.iload_n 1, 1) := by decide +kernel
theorem d_3_moveOldestToEnd_3 : decode cX3_moveOldestToEnd 3 = .ok (.aload_n 0, 1) := by decide +kernel
theorem d_3_moveOldestToEnd_4 : decode cX3_moveOldestToEnd 4 = .ok (.getfield 11, 3) := by decide +kernel
theorem d_3_moveOldestToEnd_7 : decode cX3_moveOldestToEnd 7 = .ok (.arraylength, 1) := by decide +kernel
theorem d_3_moveOldestToEnd_8 : decode cX3_moveOldestToEnd 8 = .ok (.iconst 1, 1) := by decide +kernel
theorem d_3_moveOldestToEnd_9 : decode cX3_moveOldestToEnd 9 = .ok (.isub, 1) := by decide +kernel
theorem d_3_moveOldestToEnd_10 : decode cX3_moveOldestToEnd 10 = .ok (.if_icmp .ge 39, 3) := by decide +kernel
theorem d_3_moveOldestToEnd_13 : decode cX3_moveOldestToEnd 13 = .ok (.aload_n 0, 1) := by decide +kernel
theorem d_3_moveOldestToEnd_14 : decode cX3_moveOldestToEnd 14 = .ok (.getfield 11, 3) := by decide +kernel
theorem d_3_moveOldestToEnd_17 : decode cX3_moveOldestToEnd 17 = .ok (.iload_n 1, 1) := by decide +kernel
theorem d_3_moveOldestToEnd_18 : decode cX3_moveOldestToEnd 18 = .ok (.aaload, 1) := by decide +kernel
theorem d_3_moveOldestToEnd_19 : decode cX3_moveOldestToEnd 19 = .ok (.astore_n 2, 1) := by decide +kernel
theorem d_3_moveOldestToEnd_20 : decode cX3_moveOldestToEnd 20 = .ok (.aload_n 0, 1) := by decide +kernel
theorem d_3_moveOldestToEnd_21 : decode cX3_moveOldestToEnd 21 = .ok (.getfield 11, 3) := by decide +kernel
theorem d_3_moveOldestToEnd_24 : decode cX3_moveOldestToEnd 24 = .ok (.iload_n 1, 1) := by decide +kernel
theorem d_3_moveOldestToEnd_25 : decode cX3_moveOldestToEnd 25 = .ok (.aload_n 0, 1) := by decide +kernel
theorem d_3_moveOldestToEnd_26 : decode cX3_moveOldestToEnd 26 = .ok (.getfield 11, 3) := by decide +kernel
theorem d_3_moveOldestToEnd_29 : decode cX3_moveOldestToEnd 29 = .ok (.iload_n 1, 1) := by decide +kernel
theorem d_3_moveOldestToEnd_30 : decode cX3_moveOldestToEnd 30 = .ok (.iconst 1, 1) := by decide +kernel
theorem d_3_moveOldestToEnd_31 : decode cX3_moveOldestToEnd 31 = .ok (.iadd, 1) := by decide +kernel
theorem d_3_moveOldestToEnd_32 : decode cX3_moveOldestToEnd 32 = .ok (.aaload, 1) := by decide +kernel
theorem d_3_moveOldestToEnd_33 : decode cX3_moveOldestToEnd 33 = .ok (.aastore, 1) := by decide +kernel
theorem d_3_moveOldestToEnd_34 : decode cX3_moveOldestToEnd 34 = .ok (.aload_n 0, 1) := by decide +kernel
theorem d_3_moveOldestToEnd_35 : decode cX3_moveOldestToEnd 35 = .ok (.getfield 11, 3) := by decide +kernel
theorem d_3_moveOldestToEnd_38 : decode cX3_moveOldestToEnd 38 = .ok (.iload_n 1, 1) := by decide +kernel
theorem d_3_moveOldestToEnd_39 : decode cX3_moveOldestToEnd 39 = .ok (.iconst 1, 1) := by decide +kernel
theorem d_3_moveOldestToEnd_40 : decode cX3_moveOldestToEnd 40 = .ok (.iadd, 1) := by decide +kernel
theorem d_3_moveOldestToEnd_41 : decode cX3_moveOldestToEnd 41 = .ok (.aload_n 2, 1) := by decide +kernel
theorem d_3_moveOldestToEnd_42 : decode cX3_moveOldestToEnd 42 = .ok (.aastore, 1) := by decide +kernel
theorem d_3_moveOldestToEnd_43 : decode cX3_moveOldestToEnd 43 = .ok (.iinc 1 1, 3) := by decide +kernel
theorem d_3_moveOldestToEnd_46 : decode cX3_moveOldestToEnd 46 = .ok (.goto (-44), 3) := by decide +kernel
theorem d_3_moveOldestToEnd_49 : decode cX3_moveOldestToEnd 49 = .ok (.return_, 1) := by decide +kernel
theorem d_3_giveBack_0 : decode cX3_giveBack 0 = .ok (.aload_n 0, 1) := by decide +kernel
theorem d_3_giveBack_1 : decode cX3_giveBack 1 = .ok (.getfield 18, 3) := by decide +kernel
theorem d_3_giveBack_4 : decode cX3_giveBack 4 = .ok (.iconst 1, 1) := by decide +kernel
theorem d_3_giveBack_5 : decode cX3_giveBack 5 = .ok (.isub, 1) := by decide +kernel
theorem d_3_giveBack_6 : decode cX3_giveBack 6 = .ok (.istore_n 2, 1) := by decide +kernel
theorem d_3_giveBack_7 : decode cX3_giveBack 7 = .ok (.iload_n 2, 1) := by decide +kernel
theorem d_3_giveBack_8 : decode cX3_giveBack 8 = .ok (.ifCond .lt 36, 3) := by decide +kernel
theorem d_3_giveBack_11 : decode cX3_giveBack 11 = .ok (.iload_n 2, 1) := by decide +kernel
theorem d_3_giveBack_12 : decode cX3_giveBack 12 = .ok (.aload_n 0, 1) := by decide +kernel
theorem d_3_giveBack_13 : decode cX3_giveBack 13 = .ok (.getfield 11, 3) := by decide +kernel
theorem d_3_giveBack_16 : decode cX3_giveBack 16 = .ok (.arraylength, 1) := by decide +kernel
theorem d_3_giveBack_17 : decode cX3_giveBack 17 = .ok (.if_icmp .ge 27, 3) := by decide +kernel
theorem d_3_giveBack_20 : decode cX3_giveBack 20 = .ok (.aload_n 0, 1) := by decide +kernel
theorem d_3_giveBack_21 : decode cX3_giveBack 21 = .ok (.getfield 11, 3) := by decide +kernel
theorem d_3_giveBack_24 : decode cX3_giveBack 24 = .ok (.iload_n 2, 1) := by decide +kernel
theorem d_3_giveBack_25 : decode cX3_giveBack 25 = .ok (.aaload, 1) := by decide +kernel
theorem d_3_giveBack_26 : decode cX3_giveBack 26 = .ok (.ifnull 18, 3) := by decide +kernel
theorem d_3_giveBack_29 : decode cX3_giveBack 29 = .ok (.aload_n 1, 1) := by decide +kernel
theorem d_3_giveBack_30 : decode cX3_giveBack 30 = .ok (.aload_n 0, 1) := by decide +kernel
theorem d_3_giveBack_31 : decode cX3_giveBack 31 = .ok (.getfield 11, 3) := by decide +kernel
theorem d_3_giveBack_34 : decode cX3_giveBack 34 = .ok (.iload_n 2, 1) := by decide +kernel
theorem d_3_giveBack_35 : decode cX3_giveBack 35 = .ok (.aaload, 1) := by decide +kernel
theorem d_3_giveBack_36 : decode cX3_giveBack 36 = .ok (.invokevirtual 25, 3) := by decide +kernel
theorem d_3_giveBack_39 : decode cX3_giveBack 39 = .ok (.aload_n 0, 1) := by decide +kernel
theorem d_3_giveBack_40 : decode cX3_giveBack 40 = .ok (.iload_n 2, 1) := by decide +kernel
theorem d_3_giveBack_41 : decode cX3_giveBack 41 = .ok (.putfield 18, 3) := by decide +kernel
theorem d_3_giveBack_44 : decode cX3_giveBack 44 = .ok (.return_, 1) := by decide +kernel
theorem d_4_init_0 : decode cX4_init 0 = .ok (.aload_n 0, 1) := by decide +kernel
theorem d_4_init_1 : decode cX4_init 1 = .ok (.invokespecial 1, 3) := by decide +kernel
theorem d_4_init_4 : decode cX4_init 4 = .ok (.aload_n 0, 1) := by decide +kernel
theorem d_4_init_5 : decode cX4_init 5 = .ok (.new 7, 3) := by decide +kernel
theorem d_4_init_8 : decode cX4_init 8 = .ok (.dup, 1) := by decide +kernel
theorem d_4_init_9 : decode cX4_init 9 = .ok (.invokespecial 9, 3) := by decide +kernel
theorem d_4_init_12 : decode cX4_init 12 = .ok (.putfield 10, 3) := by decide +kernel
theorem d_4_init_15 : decode cX4_init 15 = .ok (.aload_n 0, 1) := by decide +kernel
theorem d_4_init_16 : decode cX4_init 16 = .ok (.new 7, 3) := by decide +kernel
theorem d_4_init_19 : decode cX4_init 19 = .ok (.dup, 1) := by decide +kernel
theorem d_4_init_20 : decode cX4_init 20 = .ok (.invokespecial 9, 3) := by decide +kernel
theorem d_4_init_23 : decode cX4_init 23 = .ok (.putfield 16, 3) := by decide +kernel
theorem d_4_init_26 : decode cX4_init 26 = .ok (.return_, 1) := by decide +kernel
theorem d_4_clear_0 : decode cX4_clear 0 = .ok (.aload_n 0, 1) := by decide +kernel
theorem d_4_clear_1 : decode cX4_clear 1 = .ok (.iconst 0, 1) := by decide +kernel
theorem d_4_clear_2 : decode cX4_clear 2 = .ok (.putfield 19, 3) := by decide +kernel
theorem d_4_clear_5 : decode cX4_clear 5 = .ok (.aload_n 0, 1) := by decide +kernel
theorem d_4_clear_6 : decode cX4_clear 6 = .ok (.iconst 0, 1) := by decide +kernel
theorem d_4_clear_7 : decode cX4_clear 7 = .ok (.putfield 25, 3) := by decide +kernel
theorem d_4_clear_10 : decode cX4_clear 10 = .ok (.aload_n 0, 1) := by decide +kernel
theorem d_4_clear_11 : decode cX4_clear 11 = .ok (.iconst 0, 1) := by decide +kernel
theorem d_4_clear_12 : decode cX4_clear 12 = .ok (.putfield 28, 3) := by decide +kernel
theorem d_4_clear_15 : decode cX4_clear 15 = .ok (.aload_n 0, 1) := by decide +kernel
theorem d_4_clear_16 : decode cX4_clear 16 = .ok (.getfield 10, 3) := by decide +kernel
theorem d_4_clear_19 : decode cX4_clear 19 = .ok (.invokevirtual 32, 3) := by decide +kernel
theorem d_4_clear_22 : decode cX4_clear 22 = .ok (.aload_n 0, 1) := by decide +kernel
theorem d_4_clear_23 : decode cX4_clear 23 = .ok (.getfield 16, 3) := by decide +kernel
theorem d_4_clear_26 : decode cX4_clear 26 = .ok (.invokevirtual 32, 3) := by decide +kernel
theorem d_4_clear_29 : decode cX4_clear 29 = .ok (.return_, 1) := by decide +kernel
theorem d_4_take_0 : decode cX4_take 0 = .ok (.iload_n 1, 1) := by decide +kernel
theorem d_4_take_1 : decode cX4_take 1 = .ok (.invokestatic 35, 3) := by decide +kernel
theorem d_4_take_4 : decode cX4_take 4 = .ok (.ifCond .eq 11, 3) := by decide +kernel
theorem d_4_take_7 : decode cX4_take 7 = .ok (.aload_n 0, 1) := by decide +kernel
theorem d_4_take_8 : decode cX4_take 8 = .ok (.iload_n 1, 1) := by decide +kernel
theorem d_4_take_9 : decode cX4_take 9 = .ok (.invokevirtual 41, 3) := by decide +kernel
theorem d_4_take_12 : decode cX4_take 12 = .ok (.goto 75, 3) := by decide +kernel
theorem d_4_take_15 : decode cX4_take 15 = .ok (.iload_n 1, 1) := by decide +kernel
theorem d_4_take_16 : decode cX4_take 16 = .ok (.bipush 42, 2) := by decide +kernel
theorem d_4_take_18 : decode cX4_take 18 = .ok (.if_icmp .ne 11, 3) := by decide +kernel
theorem d_4_take_21 : decode cX4_take 21 = .ok (.aload_n 0, 1) := by decide +kernel
theorem d_4_take_22 : decode cX4_take 22 = .ok (.iconst 2, 1) := by decide +kernel
theorem d_4_take_23 : decode cX4_take 23 = .ok (.putfield 19, 3) := by decide +kernel
theorem d_4_take_26 : decode cX4_take 26 = .ok (.goto 61, 3) := by decide +kernel
theorem d_4_take_29 : decode cX4_take 29 = .ok (.iload_n 1, 1) := by decide +kernel
theorem d_4_take_30 : decode cX4_take 30 = .ok (.bipush 33, 2) := by decide +kernel
theorem d_4_take_32 : decode cX4_take 32 = .ok (.if_icmp .ne 11, 3) := by decide +kernel
theorem d_4_take_35 : decode cX4_take 35 = .ok (.aload_n 0, 1) := by decide +kernel
theorem d_4_take_36 : decode cX4_take 36 = .ok (.iconst 1, 1) := by decide +kernel
theorem d_4_take_37 : decode cX4_take 37 = .ok (.putfield 25, 3) := by decide +kernel
theorem d_4_take_40 : decode cX4_take 40 = .ok (.goto 47, 3) := by decide +kernel
theorem d_4_take_43 : decode cX4_take 43 = .ok (.iload_n 1, 1) := by decide +kernel
theorem d_4_take_44 : decode cX4_take 44 = .ok (.bipush 63, 2) := by decide +kernel
theorem d_4_take_46 : decode cX4_take 46 = .ok (.if_icmp .ne 11, 3) := by decide +kernel
theorem d_4_take_49 : decode cX4_take 49 = .ok (.aload_n 0, 1) := by decide +kernel
theorem d_4_take_50 : decode cX4_take 50 = .ok (.iconst 2, 1) := by decide +kernel
theorem d_4_take_51 : decode cX4_take 51 = .ok (.putfield 25, 3) := by decide +kernel
theorem d_4_take_54 : decode cX4_take 54 = .ok (.goto 33, 3) := by decide +kernel
theorem d_4_take_57 : decode cX4_take 57 = .ok (.iload_n 1, 1) := by decide +kernel
theorem d_4_take_58 : decode cX4_take 58 = .ok (.bipush 62, 2) := by decide +kernel
theorem d_4_take_60 : decode cX4_take 60 = .ok (.if_icmp .ne 11, 3) := by decide +kernel
theorem d_4_take_63 : decode cX4_take 63 = .ok (.aload_n 0, 1) := by decide +kernel
theorem d_4_take_64 : decode cX4_take 64 = .ok (.iconst 1, 1) := by decide +kernel
theorem d_4_take_65 : decode cX4_take 65 = .ok (.putfield 28, 3) := by decide +kernel
theorem d_4_take_68 : decode cX4_take 68 = .ok (.goto 19, 3) := by decide +kernel
theorem d_4_take_71 : decode cX4_take 71 = .ok (.iload_n 1, 1) := by decide +kernel
theorem d_4_take_72 : decode cX4_take 72 = .ok (.bipush 61, 2) := by decide +kernel
theorem d_4_take_74 : decode cX4_take 74 = .ok (.if_icmp .ne 13, 3) := by decide +kernel
theorem d_4_take_77 : decode cX4_take 77 = .ok (.aload_n 0, 1) := by decide +kernel
theorem d_4_take_78 : decode cX4_take 78 = .ok (.iconst 1, 1) := by decide +kernel
theorem d_4_take_79 : decode cX4_take 79 = .ok (.putfield 19, 3) := by decide +kernel
theorem d_4_take_82 : decode cX4_take 82 = .ok (.aload_n 0, 1) := by decide +kernel
theorem d_4_take_83 : decode cX4_take 83 = .ok (.iconst 1, 1) := by decide +kernel
theorem d_4_take_84 : decode cX4_take 84 = .ok (.putfield 28, 3) := by decide +kernel
theorem d_4_take_87 : decode cX4_take 87 = .ok (.return_, 1) := by decide +kernel
theorem d_4_takeLetter_0 : decode cX4_takeLetter 0 = .ok (.aload_n 0, 1) := by decide +kernel
theorem d_4_takeLetter_1 : decode cX4_takeLetter 1 = .ok (.getfield 28, 3) := by decide +kernel
theorem d_4_takeLetter_4 : decode cX4_takeLetter 4 = .ok (.ifCond .eq 14, 3) := by decide +kernel
theorem d_4_takeLetter_7 : decode cX4_takeLetter 7 = .ok (.aload_n 0, 1) := by decide +kernel
theorem d_4_takeLetter_8 : decode cX4_takeLetter 8 = .ok (.getfield 16, 3) := by decide +kernel
theorem d_4_takeLetter_11 : decode cX4_takeLetter 11 = .ok (.iload_n 1, 1) := by decide +kernel
theorem d_4_takeLetter_12 : decode cX4_takeLetter 12 = .ok (.invokevirtual 45, 3) := by decide +kernel
theorem d_4_takeLetter_15 : decode cX4_takeLetter 15 = .ok (.goto 11, 3) := by decide +kernel
theorem d_4_takeLetter_18 : decode cX4_takeLetter 18 = .ok (.aload_n 0, 1) := by decide +kernel
theorem d_4_takeLetter_19 : decode cX4_takeLetter 19 = .ok (.getfield 10, 3) := by decide +kernel
theorem d_4_takeLetter_22 : decode cX4_takeLetter 22 = .ok (.iload_n 1, 1) := by decide +kernel
theorem d_4_takeLetter_23 : decode cX4_takeLetter 23 = .ok (.invokevirtual 45, 3) := by decide +kernel
theorem d_4_takeLetter_26 : decode cX4_takeLetter 26 = .ok (.return_, 1) := by decide +kernel
theorem d_5_init_0 : decode cX5_init 0 = .ok (.aload_n 0, 1) := by decide +kernel
theorem d_5_init_1 : decode cX5_init 1 = .ok (.invokespecial 3, 3) := by decide +kernel
theorem d_5_init_4 : decode cX5_init 4 = .ok (.aload_n 0, 1) := by decide +kernel
theorem d_5_init_5 : decode cX5_init 5 = .ok (.bipush 60, 2) := by decide +kernel
theorem d_5_init_7 : decode cX5_init 7 = .ok (.newarray .char, 2) := by decide +kernel
theorem d_5_init_9 : decode cX5_init 9 = .ok (.putfield 9, 3) := by decide +kernel
theorem d_5_init_12 : decode cX5_init 12 = .ok (.aload_n 0, 1) := by decide +kernel
theorem d_5_init_13 : decode cX5_init 13 = .ok (.new 15, 3) := by decide +kernel
theorem d_5_init_16 : decode cX5_init 16 = .ok (.dup, 1) := by decide +kernel
theorem d_5_init_17 : decode cX5_init 17 = .ok (.invokespecial 17, 3) := by decide +kernel
theorem d_5_init_20 : decode cX5_init 20 = .ok (.putfield 18, 3) := by decide +kernel
theorem d_5_init_23 : decode cX5_init 23 = .ok (.return_, 1) := by decide +kernel
theorem d_5_length_0 : decode cX5_length 0 = .ok (.aload_n 0, 1) := by decide +kernel
theorem d_5_length_1 : decode cX5_length 1 = .ok (.getfield 22, 3) := by decide +kernel
theorem d_5_length_4 : decode cX5_length 4 = .ok (.ireturn, 1) := by decide +kernel
theorem d_5_isFull_0 : decode cX5_isFull 0 = .ok (.aload_n 0, 1) := by decide +kernel
theorem d_5_isFull_1 : decode cX5_isFull 1 = .ok (.getfield 22, 3) := by decide +kernel
theorem d_5_isFull_4 : decode cX5_isFull 4 = .ok (.aload_n 0, 1) := by decide +kernel
theorem d_5_isFull_5 : decode cX5_isFull 5 = .ok (.getfield 9, 3) := by decide +kernel
theorem d_5_isFull_8 : decode cX5_isFull 8 = .ok (.arraylength, 1) := by decide +kernel
theorem d_5_isFull_9 : decode cX5_isFull 9 = .ok (.if_icmp .lt 7, 3) := by decide +kernel
theorem d_5_isFull_12 : decode cX5_isFull 12 = .ok (.iconst 1, 1) := by decide +kernel
theorem d_5_isFull_13 : decode cX5_isFull 13 = .ok (.goto 4, 3) := by decide +kernel
theorem d_5_isFull_16 : decode cX5_isFull 16 = .ok (.iconst 0, 1) := by decide +kernel
theorem d_5_isFull_17 : decode cX5_isFull 17 = .ok (.ireturn, 1) := by decide +kernel
theorem d_5_append_0 : decode cX5_append 0 = .ok (.aload_n 0, 1) := by decide +kernel
theorem d_5_append_1 : decode cX5_append 1 = .ok (.getfield 22, 3) := by decide +kernel
theorem d_5_append_4 : decode cX5_append 4 = .ok (.ifCond .lt 35, 3) := by decide +kernel
theorem d_5_append_7 : decode cX5_append 7 = .ok (.aload_n 0, 1) := by decide +kernel
theorem d_5_append_8 : decode cX5_append 8 = .ok (.getfield 22, 3) := by decide +kernel
theorem d_5_append_11 : decode cX5_append 11 = .ok (.aload_n 0, 1) := by decide +kernel
theorem d_5_append_12 : decode cX5_append 12 = .ok (.getfield 9, 3) := by decide +kernel
theorem d_5_append_15 : decode cX5_append 15 = .ok (.arraylength, 1) := by decide +kernel
theorem d_5_append_16 : decode cX5_append 16 = .ok (.if_icmp .ge 23, 3) := by decide +kernel
theorem d_5_append_19 : decode cX5_append 19 = .ok (.aload_n 0, 1) := by decide +kernel
theorem d_5_append_20 : decode cX5_append 20 = .ok (.getfield 9, 3) := by decide +kernel
theorem d_5_append_23 : decode cX5_append 23 = .ok (.aload_n 0, 1) := by decide +kernel
theorem d_5_append_24 : decode cX5_append 24 = .ok (.getfield 22, 3) := by decide +kernel
theorem d_5_append_27 : decode cX5_append 27 = .ok (.iload_n 1, 1) := by decide +kernel
theorem d_5_append_28 : decode cX5_append 28 = .ok (.castore, 1) := by decide +kernel
theorem d_5_append_29 : decode cX5_append 29 = .ok (.aload_n 0, 1) := by decide +kernel
theorem d_5_append_30 : decode cX5_append 30 = .ok (.dup, 1) := by decide +kernel
theorem d_5_append_31 : decode cX5_append 31 = .ok (.getfield 22, 3) := by decide +kernel
theorem d_5_append_34 : decode cX5_append 34 = .ok (.iconst 1, 1) := by decide +kernel
theorem d_5_append_35 : decode cX5_append 35 = .ok (.iadd, 1) := by decide +kernel
theorem d_5_append_36 : decode cX5_append 36 = .ok (.putfield 22, 3) := by decide +kernel
theorem d_5_append_39 : decode cX5_append 39 = .ok (.return_, 1) := by decide +kernel
theorem d_5_clear_0 : decode cX5_clear 0 = .ok (.aload_n 0, 1) := by decide +kernel
theorem d_5_clear_1 : decode cX5_clear 1 = .ok (.iconst 0, 1) := by decide +kernel
theorem d_5_clear_2 : decode cX5_clear 2 = .ok (.putfield 22, 3) := by decide +kernel
theorem d_5_clear_5 : decode cX5_clear 5 = .ok (.return_, 1) := by decide +kernel
theorem d_5_sign_0 : decode cX5_sign 0 = .ok (.iload_n 1, 1) := by decide +kernel
theorem d_5_sign_1 : decode cX5_sign 1 = .ok (.ifCond .lt 29, 3) := by decide +kernel
theorem d_5_sign_4 : decode cX5_sign 4 = .ok (.iload_n 1, 1) := by decide +kernel
theorem d_5_sign_5 : decode cX5_sign 5 = .ok (.aload_n 0, 1) := by decide +kernel
theorem d_5_sign_6 : decode cX5_sign 6 = .ok (.getfield 22, 3) := by decide +kernel
theorem d_5_sign_9 : decode cX5_sign 9 = .ok (.if_icmp .ge 21, 3) := by decide +kernel
theorem d_5_sign_12 : decode cX5_sign 12 = .ok (.iload_n 1, 1) := by decide +kernel
theorem d_5_sign_13 : decode cX5_sign 13 = .ok (.aload_n 0, 1) := by decide +kernel
theorem d_5_sign_14 : decode cX5_sign 14 = .ok (.getfield 9, 3) := by decide +kernel
theorem d_5_sign_17 : decode cX5_sign 17 = .ok (.arraylength, 1) := by decide +kernel
theorem d_5_sign_18 : decode cX5_sign 18 = .ok (.if_icmp .ge 12, 3) := by decide +kernel
theorem d_5_sign_21 : decode cX5_sign 21 = .ok (.aload_n 0, 1) := by decide +kernel
theorem d_5_sign_22 : decode cX5_sign 22 = .ok (.getfield 9, 3) := by decide +kernel
theorem d_5_sign_25 : decode cX5_sign 25 = .ok (.iload_n 1, 1) := by decide +kernel
theorem d_5_sign_26 : decode cX5_sign 26 = .ok (.caload, 1) := by decide +kernel
theorem d_5_sign_27 : decode cX5_sign 27 = .ok (.goto 4, 3) := by decide +kernel
theorem d_5_sign_30 : decode cX5_sign 30 = .ok (.iconst 0, 1) := by decide +kernel
theorem d_5_sign_31 : decode cX5_sign 31 = .ok (.ireturn, 1) := by decide +kernel
theorem d_5_firstError_0 : decode cX5_firstError 0 = .ok (.aload_n 0, 1) := by decide +kernel
theorem d_5_firstError_1 : decode cX5_firstError 1 = .ok (.getfield 18, 3) := by decide +kernel
theorem d_5_firstError_4 : decode cX5_firstError 4 = .ok (.invokevirtual 26, 3) := by decide +kernel
theorem d_5_firstError_7 : decode cX5_firstError 7 = .ok (.iconst 0, 1) := by decide +kernel
theorem d_5_firstError_8 : decode cX5_firstError 8 = .ok (.istore_n 1, 1) := by decide +kernel
theorem d_5_firstError_9 : decode cX5_firstError 9 = .ok (.iload_n 1, 1) := by decide +kernel
theorem d_5_firstError_10 : decode cX5_firstError 10 = .ok (.aload_n 0, 1) := by decide +kernel
theorem d_5_firstError_11 : decode cX5_firstError 11 = .ok (.getfield 22, 3) := by decide +kernel
theorem d_5_firstError_14 : decode cX5_firstError 14 = .ok (.if_icmp .ge 26, 3) := by decide +kernel
theorem d_5_firstError_17 : decode cX5_firstError 17 = .ok (.aload_n 0, 1) := by decide +kernel
theorem d_5_firstError_18 : decode cX5_firstError 18 = .ok (.getfield 18, 3) := by decide +kernel
theorem d_5_firstError_21 : decode cX5_firstError 21 = .ok (.aload_n 0, 1) := by decide +kernel
theorem d_5_firstError_22 : decode cX5_firstError 22 = .ok (.iload_n 1, 1) := by decide +kernel
theorem d_5_firstError_23 : decode cX5_firstError 23 = .ok (.invokevirtual 29, 3) := by decide +kernel
theorem d_5_firstError_26 : decode cX5_firstError 26 = .ok (.invokevirtual 33, 3) := by decide +kernel
theorem d_5_firstError_29 : decode cX5_firstError 29 = .ok (.ifCond .ne 5, 3) := by decide +kernel
theorem d_5_firstError_32 : decode cX5_firstError 32 = .ok (.iload_n 1, 1) := by decide +kernel
theorem d_5_firstError_33 : decode cX5_firstError 33 = .ok (.ireturn, 1) := by decide +kernel
theorem d_5_firstError_34 : decode cX5_firstError 34 = .ok (.iinc 1 1, 3) := by decide +kernel
theorem d_5_firstError_37 : decode cX5_firstError 37 = .ok (.goto (-28), 3) := by decide +kernel
theorem d_5_firstError_40 : decode cX5_firstError 40 = .ok (.aload_n 0, 1) := by decide +kernel
theorem d_5_firstError_41 : decode cX5_firstError 41 = .ok (.getfield 18, 3) := by decide +kernel
theorem d_5_firstError_44 : decode cX5_firstError 44 = .ok (.invokevirtual 37, 3) := by decide +kernel
theorem d_5_firstError_47 : decode cX5_firstError 47 = .ok (.ifCond .eq 7, 3) := by decide +kernel
theorem d_5_firstError_50 : decode cX5_firstError 50 = .ok (.iconst (-1), 1) := by decide +kernel
theorem d_5_firstError_51 : decode cX5_firstError 51 = .ok (.goto 7, 3) := by decide +kernel
theorem d_5_firstError_54 : decode cX5_firstError 54 = .ok (.aload_n 0, 1) := by decide +kernel
theorem d_5_firstError_55 : decode cX5_firstError 55 = .ok (.getfield 22, 3) := by decide +kernel
theorem d_5_firstError_58 : decode cX5_firstError 58 = .ok (.ireturn, 1) := by decide +kernel
theorem d_5_orders_0 : decode cX5_orders 0 = .ok (.iconst 1, 1) := by decide +kernel
theorem d_5_orders_1 : decode cX5_orders 1 = .ok (.istore_n 1, 1) := by decide +kernel
theorem d_5_orders_2 : decode cX5_orders 2 = .ok (.iconst 0, 1) := by decide +kernel
theorem d_5_orders_3 : decode cX5_orders 3 = .ok (.istore_n 2, 1) := by decide +kernel
theorem d_5_orders_4 : decode cX5_orders 4 = .ok (.iload_n 2, 1) := by decide +kernel
theorem d_5_orders_5 : decode cX5_orders 5 = .ok (.aload_n 0, 1) := by decide +kernel
theorem d_5_orders_6 : decode cX5_orders 6 = .ok (.getfield 22, 3) := by decide +kernel
theorem d_5_orders_9 : decode cX5_orders 9 = .ok (.if_icmp .ge 22, 3) := by decide +kernel
theorem d_5_orders_12 : decode cX5_orders 12 = .ok (.aload_n 0, 1) := by decide +kernel
theorem d_5_orders_13 : decode cX5_orders 13 = .ok (.iload_n 2, 1) := by decide +kernel
theorem d_5_orders_14 : decode cX5_orders 14 = .ok (.invokevirtual 29, 3) := by decide +kernel
theorem d_5_orders_17 : decode cX5_orders 17 = .ok (.bipush 59, 2) := by decide +kernel
theorem d_5_orders_19 : decode cX5_orders 19 = .ok (.if_icmp .ne 6, 3) := by decide +kernel
theorem d_5_orders_22 : decode cX5_orders 22 = .ok (.iinc 1 1, 3) := by decide +kernel
theorem d_5_orders_25 : decode cX5_orders 25 = .ok (.iinc 2 1, 3) := by decide +kernel
theorem d_5_orders_28 : decode cX5_orders 28 = .ok (.goto (-24), 3) := by decide +kernel
theorem d_5_orders_31 : decode cX5_orders 31 = .ok (.iload_n 1, 1) := by decide +kernel
theorem d_5_orders_32 : decode cX5_orders 32 = .ok (.ireturn, 1) := by decide +kernel
theorem d_5_read_0 : decode cX5_read 0 = .ok (.aload_n 2, 1) := by decide +kernel
theorem d_5_read_1 : decode cX5_read 1 = .ok (.invokevirtual 41, 3) := by decide +kernel
theorem d_5_read_4 : decode cX5_read 4 = .ok (.iload_n 1, 1) := by decide +kernel
theorem d_5_read_5 : decode cX5_read 5 = .ok (.istore_n 3, 1) := by decide +kernel
theorem d_5_read_6 : decode cX5_read 6 = .ok (.iload_n 3, 1) := by decide +kernel
theorem d_5_read_7 : decode cX5_read 7 = .ok (.aload_n 0, 1) := by decide +kernel
theorem d_5_read_8 : decode cX5_read 8 = .ok (.getfield 22, 3) := by decide +kernel
theorem d_5_read_11 : decode cX5_read 11 = .ok (.if_icmp .ge 28, 3) := by decide +kernel
theorem d_5_read_14 : decode cX5_read 14 = .ok (.aload_n 0, 1) := by decide +kernel
theorem d_5_read_15 : decode cX5_read 15 = .ok (.iload_n 3, 1) := by decide +kernel
theorem d_5_read_16 : decode cX5_read 16 = .ok (.invokevirtual 29, 3) := by decide +kernel
theorem d_5_read_19 : decode cX5_read 19 = .ok (.bipush 59, 2) := by decide +kernel
theorem d_5_read_21 : decode cX5_read 21 = .ok (.if_icmp .eq 18, 3) := by decide +kernel
theorem d_5_read_24 : decode cX5_read 24 = .ok (.aload_n 2, 1) := by decide +kernel
theorem d_5_read_25 : decode cX5_read 25 = .ok (.aload_n 0, 1) := by decide +kernel
theorem d_5_read_26 : decode cX5_read 26 = .ok (.iload_n 3, 1) := by decide +kernel
theorem d_5_read_27 : decode cX5_read 27 = .ok (.invokevirtual 29, 3) := by decide +kernel
theorem d_5_read_30 : decode cX5_read 30 = .ok (.invokevirtual 46, 3) := by decide +kernel
theorem d_5_read_33 : decode cX5_read 33 = .ok (.iinc 3 1, 3) := by decide +kernel
theorem d_5_read_36 : decode cX5_read 36 = .ok (.goto (-30), 3) := by decide +kernel
theorem d_5_read_39 : decode cX5_read 39 = .ok (.iload_n 3, 1) := by decide +kernel
theorem d_5_read_40 : decode cX5_read 40 = .ok (.iconst 1, 1) := by decide +kernel
theorem d_5_read_41 : decode cX5_read 41 = .ok (.iadd, 1) := by decide +kernel
theorem d_5_read_42 : decode cX5_read 42 = .ok (.ireturn, 1) := by decide +kernel
theorem d_5_isWord_0 : decode cX5_isWord 0 = .ok (.iconst 0, 1) := by decide +kernel
theorem d_5_isWord_1 : decode cX5_isWord 1 = .ok (.istore_n 1, 1) := by decide +kernel
theorem d_5_isWord_2 : decode cX5_isWord 2 = .ok (.iload_n 1, 1) := by decide +kernel
theorem d_5_isWord_3 : decode cX5_isWord 3 = .ok (.aload_n 0, 1) := by decide +kernel
theorem d_5_isWord_4 : decode cX5_isWord 4 = .ok (.getfield 22, 3) := by decide +kernel
theorem d_5_isWord_7 : decode cX5_isWord 7 = .ok (.if_icmp .ge 22, 3) := by decide +kernel
theorem d_5_isWord_10 : decode cX5_isWord 10 = .ok (.aload_n 0, 1) := by decide +kernel
theorem d_5_isWord_11 : decode cX5_isWord 11 = .ok (.iload_n 1, 1) := by decide +kernel
theorem d_5_isWord_12 : decode cX5_isWord 12 = .ok (.invokevirtual 29, 3) := by decide +kernel
theorem d_5_isWord_15 : decode cX5_isWord 15 = .ok (.invokestatic 49, 3) := by decide +kernel
theorem d_5_isWord_18 : decode cX5_isWord 18 = .ok (.ifCond .ne 5, 3) := by decide +kernel
theorem d_5_isWord_21 : decode cX5_isWord 21 = .ok (.iconst 0, 1) := by decide +kernel
theorem d_5_isWord_22 : decode cX5_isWord 22 = .ok (.ireturn, 1) := by decide +kernel
theorem d_5_isWord_23 : decode cX5_isWord 23 = .ok (.iinc 1 1, 3) := by decide +kernel
theorem d_5_isWord_26 : decode cX5_isWord 26 = .ok (.goto (-24), 3) := by decide +kernel
theorem d_5_isWord_29 : decode cX5_isWord 29 = .ok (.aload_n 0, 1) := by decide +kernel
theorem d_5_isWord_30 : decode cX5_isWord 30 = .ok (.getfield 22, 3) := by decide +kernel
theorem d_5_isWord_33 : decode cX5_isWord 33 = .ok (.iconst 1, 1) := by decide +kernel
theorem d_5_isWord_34 : decode cX5_isWord 34 = .ok (.if_icmp .lt 16, 3) := by decide +kernel
theorem d_5_isWord_37 : decode cX5_isWord 37 = .ok (.aload_n 0, 1) := by decide +kernel
theorem d_5_isWord_38 : decode cX5_isWord 38 = .ok (.getfield 22, 3) := by decide +kernel
theorem d_5_isWord_41 : decode cX5_isWord 41 = .ok (.bipush 12, 2) := by decide +kernel
theorem d_5_isWord_43 : decode cX5_isWord 43 = .ok (.if_icmp .gt 7, 3) := by decide +kernel
theorem d_5_isWord_46 : decode cX5_isWord 46 = .ok (.iconst 1, 1) := by decide +kernel
theorem d_5_isWord_47 : decode cX5_isWord 47 = .ok (.goto 4, 3) := by decide +kernel
theorem d_5_isWord_50 : decode cX5_isWord 50 = .ok (.iconst 0, 1) := by decide +kernel
theorem d_5_isWord_51 : decode cX5_isWord 51 = .ok (.ireturn, 1) := by decide +kernel
theorem d_5_load_0 : decode cX5_load 0 = .ok (.aload_n 1, 1) := by decide +kernel
theorem d_5_load_1 : decode cX5_load 1 = .ok (.invokevirtual 52, 3) := by decide +kernel
theorem d_5_load_4 : decode cX5_load 4 = .ok (.iconst 0, 1) := by decide +kernel
theorem d_5_load_5 : decode cX5_load 5 = .ok (.istore_n 2, 1) := by decide +kernel
theorem d_5_load_6 : decode cX5_load 6 = .ok (.iload_n 2, 1) := by decide +kernel
theorem d_5_load_7 : decode cX5_load 7 = .ok (.aload_n 0, 1) := by decide +kernel
theorem d_5_load_8 : decode cX5_load 8 = .ok (.getfield 22, 3) := by decide +kernel
theorem d_5_load_11 : decode cX5_load 11 = .ok (.if_icmp .ge 18, 3) := by decide +kernel
theorem d_5_load_14 : decode cX5_load 14 = .ok (.aload_n 1, 1) := by decide +kernel
theorem d_5_load_15 : decode cX5_load 15 = .ok (.aload_n 0, 1) := by decide +kernel
theorem d_5_load_16 : decode cX5_load 16 = .ok (.iload_n 2, 1) := by decide +kernel
theorem d_5_load_17 : decode cX5_load 17 = .ok (.invokevirtual 29, 3) := by decide +kernel
theorem d_5_load_20 : decode cX5_load 20 = .ok (.invokevirtual 55, 3) := by decide +kernel
theorem d_5_load_23 : decode cX5_load 23 = .ok (.iinc 2 1, 3) := by decide +kernel
theorem d_5_load_26 : decode cX5_load 26 = .ok (.goto (-20), 3) := by decide +kernel
theorem d_5_load_29 : decode cX5_load 29 = .ok (.return_, 1) := by decide +kernel
theorem d_6_init_0 : decode cX6_init 0 = .ok (.aload_n 0, 1) := by decide +kernel
theorem d_6_init_1 : decode cX6_init 1 = .ok (.invokespecial 3, 3) := by decide +kernel
theorem d_6_init_4 : decode cX6_init 4 = .ok (.aload_n 0, 1) := by decide +kernel
theorem d_6_init_5 : decode cX6_init 5 = .ok (.new 9, 3) := by decide +kernel
theorem d_6_init_8 : decode cX6_init 8 = .ok (.dup, 1) := by decide +kernel
theorem d_6_init_9 : decode cX6_init 9 = .ok (.bipush 20, 2) := by decide +kernel
theorem d_6_init_11 : decode cX6_init 11 = .ok (.bipush 12, 2) := by decide +kernel
theorem d_6_init_13 : decode cX6_init 13 = .ok (.invokespecial 11, 3) := by decide +kernel
theorem d_6_init_16 : decode cX6_init 16 = .ok (.putfield 14, 3) := by decide +kernel
theorem d_6_init_19 : decode cX6_init 19 = .ok (.aload_n 0, 1) := by decide +kernel
theorem d_6_init_20 : decode cX6_init 20 = .ok (.new 9, 3) := by decide +kernel
theorem d_6_init_23 : decode cX6_init 23 = .ok (.dup, 1) := by decide +kernel
theorem d_6_init_24 : decode cX6_init 24 = .ok (.bipush 10, 2) := by decide +kernel
theorem d_6_init_26 : decode cX6_init 26 = .ok (.bipush 12, 2) := by decide +kernel
theorem d_6_init_28 : decode cX6_init 28 = .ok (.invokespecial 11, 3) := by decide +kernel
theorem d_6_init_31 : decode cX6_init 31 = .ok (.putfield 20, 3) := by decide +kernel
theorem d_6_init_34 : decode cX6_init 34 = .ok (.aload_n 0, 1) := by decide +kernel
theorem d_6_init_35 : decode cX6_init 35 = .ok (.new 9, 3) := by decide +kernel
theorem d_6_init_38 : decode cX6_init 38 = .ok (.dup, 1) := by decide +kernel
theorem d_6_init_39 : decode cX6_init 39 = .ok (.bipush 10, 2) := by decide +kernel
theorem d_6_init_41 : decode cX6_init 41 = .ok (.bipush 12, 2) := by decide +kernel
theorem d_6_init_43 : decode cX6_init 43 = .ok (.invokespecial 11, 3) := by decide +kernel
theorem d_6_init_46 : decode cX6_init 46 = .ok (.putfield 23, 3) := by decide +kernel
theorem d_6_init_49 : decode cX6_init 49 = .ok (.aload_n 0, 1) := by decide +kernel
theorem d_6_init_50 : decode cX6_init 50 = .ok (.new 26, 3) := by decide +kernel
theorem d_6_init_53 : decode cX6_init 53 = .ok (.dup, 1) := by decide +kernel
theorem d_6_init_54 : decode cX6_init 54 = .ok (.invokespecial 28, 3) := by decide +kernel
theorem d_6_init_57 : decode cX6_init 57 = .ok (.putfield 29, 3) := by decide +kernel
theorem d_6_init_60 : decode cX6_init 60 = .ok (.aload_n 0, 1) := by decide +kernel
theorem d_6_init_61 : decode cX6_init 61 = .ok (.new 33, 3) := by decide +kernel
theorem d_6_init_64 : decode cX6_init 64 = .ok (.dup, 1) := by decide +kernel
theorem d_6_init_65 : decode cX6_init 65 = .ok (.invokespecial 35, 3) := by decide +kernel
theorem d_6_init_68 : decode cX6_init 68 = .ok (.putfield 36, 3) := by decide +kernel
theorem d_6_init_71 : decode cX6_init 71 = .ok (.return_, 1) := by decide +kernel
theorem d_6_addFirstDie_0 : decode cX6_addFirstDie 0 = .ok (.new 40, 3) := by decide +kernel
theorem d_6_addFirstDie_3 : decode cX6_addFirstDie 3 = .ok (.dup, 1) := by decide +kernel
theorem d_6_addFirstDie_4 : decode cX6_addFirstDie 4 = .ok (.invokespecial 42, 3) := by decide +kernel
theorem d_6_addFirstDie_7 : decode cX6_addFirstDie 7 = .ok (.astore_n 1, 1) := by decide +kernel
theorem d_6_addFirstDie_8 : decode cX6_addFirstDie 8 = .ok (.new 40, 3) := by decide +kernel
theorem d_6_addFirstDie_11 : decode cX6_addFirstDie 11 = .ok (.dup, 1) := by decide +kernel
theorem d_6_addFirstDie_12 : decode cX6_addFirstDie 12 = .ok (.invokespecial 42, 3) := by decide +kernel
theorem d_6_addFirstDie_15 : decode cX6_addFirstDie 15 = .ok (.astore_n 2, 1) := by decide +kernel
theorem d_6_addFirstDie_16 : decode cX6_addFirstDie 16 = .ok (.aload_n 2, 1) := by decide +kernel
theorem d_6_addFirstDie_17 : decode cX6_addFirstDie 17 = .ok (.bipush 115, 2) := by decide +kernel
theorem d_6_addFirstDie_19 : decode cX6_addFirstDie 19 = .ok (.invokevirtual 43, 3) := by decide +kernel
theorem d_6_addFirstDie_22 : decode cX6_addFirstDie 22 = .ok (.aload_n 0, 1) := by decide +kernel
theorem d_6_addFirstDie_23 : decode cX6_addFirstDie 23 = .ok (.getfield 29, 3) := by decide +kernel
theorem d_6_addFirstDie_26 : decode cX6_addFirstDie 26 = .ok (.aload_n 1, 1) := by decide +kernel
theorem d_6_addFirstDie_27 : decode cX6_addFirstDie 27 = .ok (.aload_n 2, 1) := by decide +kernel
theorem d_6_addFirstDie_28 : decode cX6_addFirstDie 28 = .ok (.iconst 0, 1) := by decide +kernel
theorem d_6_addFirstDie_29 : decode cX6_addFirstDie 29 = .ok (.invokevirtual 47, 3) := by decide +kernel
theorem d_6_addFirstDie_32 : decode cX6_addFirstDie 32 = .ok (.pop, 1) := by decide +kernel
theorem d_6_addFirstDie_33 : decode cX6_addFirstDie 33 = .ok (.return_, 1) := by decide +kernel
theorem d_6_loadPlural_0 : decode cX6_loadPlural 0 = .ok (.aload_n 0, 1) := by decide +kernel
theorem d_6_loadPlural_1 : decode cX6_loadPlural 1 = .ok (.getfield 14, 3) := by decide +kernel
theorem d_6_loadPlural_4 : decode cX6_loadPlural 4 = .ok (.iload_n 1, 1) := by decide +kernel
theorem d_6_loadPlural_5 : decode cX6_loadPlural 5 = .ok (.aload_n 2, 1) := by decide +kernel
theorem d_6_loadPlural_6 : decode cX6_loadPlural 6 = .ok (.invokevirtual 51, 3) := by decide +kernel
theorem d_6_loadPlural_9 : decode cX6_loadPlural 9 = .ok (.aload_n 0, 1) := by decide +kernel
theorem d_6_loadPlural_10 : decode cX6_loadPlural 10 = .ok (.aload_n 2, 1) := by decide +kernel
theorem d_6_loadPlural_11 : decode cX6_loadPlural 11 = .ok (.invokevirtual 55, 3) := by decide +kernel
theorem d_6_loadPlural_14 : decode cX6_loadPlural 14 = .ok (.return_, 1) := by decide +kernel
theorem d_6_makePlural_0 : decode cX6_makePlural 0 = .ok (.aload_n 0, 1) := by decide +kernel
theorem d_6_makePlural_1 : decode cX6_makePlural 1 = .ok (.getfield 20, 3) := by decide +kernel
theorem d_6_makePlural_4 : decode cX6_makePlural 4 = .ok (.aload_n 1, 1) := by decide +kernel
theorem d_6_makePlural_5 : decode cX6_makePlural 5 = .ok (.invokevirtual 59, 3) := by decide +kernel
theorem d_6_makePlural_8 : decode cX6_makePlural 8 = .ok (.istore_n 2, 1) := by decide +kernel
theorem d_6_makePlural_9 : decode cX6_makePlural 9 = .ok (.iload_n 2, 1) := by decide +kernel
theorem d_6_makePlural_10 : decode cX6_makePlural 10 = .ok (.iconst (-1), 1) := by decide +kernel
theorem d_6_makePlural_11 : decode cX6_makePlural 11 = .ok (.if_icmp .eq 15, 3) := by decide +kernel
theorem d_6_makePlural_14 : decode cX6_makePlural 14 = .ok (.aload_n 0, 1) := by decide +kernel
theorem d_6_makePlural_15 : decode cX6_makePlural 15 = .ok (.getfield 23, 3) := by decide +kernel
theorem d_6_makePlural_18 : decode cX6_makePlural 18 = .ok (.iload_n 2, 1) := by decide +kernel
theorem d_6_makePlural_19 : decode cX6_makePlural 19 = .ok (.aload_n 1, 1) := by decide +kernel
theorem d_6_makePlural_20 : decode cX6_makePlural 20 = .ok (.invokevirtual 51, 3) := by decide +kernel
theorem d_6_makePlural_23 : decode cX6_makePlural 23 = .ok (.goto 19, 3) := by decide +kernel
theorem d_6_makePlural_26 : decode cX6_makePlural 26 = .ok (.aload_n 0, 1) := by decide +kernel
theorem d_6_makePlural_27 : decode cX6_makePlural 27 = .ok (.getfield 29, 3) := by decide +kernel
theorem d_6_makePlural_30 : decode cX6_makePlural 30 = .ok (.aload_n 0, 1) := by decide +kernel
theorem d_6_makePlural_31 : decode cX6_makePlural 31 = .ok (.getfield 29, 3) := by decide +kernel
theorem d_6_makePlural_34 : decode cX6_makePlural 34 = .ok (.aload_n 1, 1) := by decide +kernel
theorem d_6_makePlural_35 : decode cX6_makePlural 35 = .ok (.invokevirtual 63, 3) := by decide +kernel
theorem d_6_makePlural_38 : decode cX6_makePlural 38 = .ok (.aload_n 1, 1) := by decide +kernel
theorem d_6_makePlural_39 : decode cX6_makePlural 39 = .ok (.invokevirtual 66, 3) := by decide +kernel
theorem d_6_makePlural_42 : decode cX6_makePlural 42 = .ok (.return_, 1) := by decide +kernel
theorem d_6_isStale_0 : decode cX6_isStale 0 = .ok (.aload_n 0, 1) := by decide +kernel
theorem d_6_isStale_1 : decode cX6_isStale 1 = .ok (.getfield 14, 3) := by decide +kernel
theorem d_6_isStale_4 : decode cX6_isStale 4 = .ok (.aload_n 0, 1) := by decide +kernel
theorem d_6_isStale_5 : decode cX6_isStale 5 = .ok (.getfield 36, 3) := by decide +kernel
theorem d_6_isStale_8 : decode cX6_isStale 8 = .ok (.iload_n 1, 1) := by decide +kernel
theorem d_6_isStale_9 : decode cX6_isStale 9 = .ok (.invokevirtual 69, 3) := by decide +kernel
theorem d_6_isStale_12 : decode cX6_isStale 12 = .ok (.aload_n 2, 1) := by decide +kernel
theorem d_6_isStale_13 : decode cX6_isStale 13 = .ok (.invokevirtual 51, 3) := by decide +kernel
theorem d_6_isStale_16 : decode cX6_isStale 16 = .ok (.aload_n 0, 1) := by decide +kernel
theorem d_6_isStale_17 : decode cX6_isStale 17 = .ok (.aload_n 2, 1) := by decide +kernel
theorem d_6_isStale_18 : decode cX6_isStale 18 = .ok (.invokevirtual 55, 3) := by decide +kernel
theorem d_6_isStale_21 : decode cX6_isStale 21 = .ok (.aload_n 0, 1) := by decide +kernel
theorem d_6_isStale_22 : decode cX6_isStale 22 = .ok (.getfield 36, 3) := by decide +kernel
theorem d_6_isStale_25 : decode cX6_isStale 25 = .ok (.iload_n 1, 1) := by decide +kernel
theorem d_6_isStale_26 : decode cX6_isStale 26 = .ok (.aload_n 2, 1) := by decide +kernel
theorem d_6_isStale_27 : decode cX6_isStale 27 = .ok (.invokevirtual 73, 3) := by decide +kernel
theorem d_6_isStale_30 : decode cX6_isStale 30 = .ok (.ifCond .ne 7, 3) := by decide +kernel
theorem d_6_isStale_33 : decode cX6_isStale 33 = .ok (.iconst 1, 1) := by decide +kernel
theorem d_6_isStale_34 : decode cX6_isStale 34 = .ok (.goto 4, 3) := by decide +kernel
theorem d_6_isStale_37 : decode cX6_isStale 37 = .ok (.iconst 0, 1) := by decide +kernel
theorem d_6_isStale_38 : decode cX6_isStale 38 = .ok (.ireturn, 1) := by decide +kernel
theorem d_6_accept_0 : decode cX6_accept 0 = .ok (.aload_n 1, 1) := by decide +kernel
theorem d_6_accept_1 : decode cX6_accept 1 = .ok (.getfield 77, 3) := by decide +kernel
theorem d_6_accept_4 : decode cX6_accept 4 = .ok (.iconst 2, 1) := by decide +kernel
theorem d_6_accept_5 : decode cX6_accept 5 = .ok (.if_icmp .ne 23, 3) := by decide +kernel
theorem d_6_accept_8 : decode cX6_accept 8 = .ok (.aload_n 0, 1) := by decide +kernel
theorem d_6_accept_9 : decode cX6_accept 9 = .ok (.getfield 29, 3) := by decide +kernel
theorem d_6_accept_12 : decode cX6_accept 12 = .ok (.aload_n 1, 1) := by decide +kernel
theorem d_6_accept_13 : decode cX6_accept 13 = .ok (.getfield 83, 3) := by decide +kernel
theorem d_6_accept_16 : decode cX6_accept 16 = .ok (.aload_n 1, 1) := by decide +kernel
theorem d_6_accept_17 : decode cX6_accept 17 = .ok (.getfield 87, 3) := by decide +kernel
theorem d_6_accept_20 : decode cX6_accept 20 = .ok (.aload_n 1, 1) := by decide +kernel
theorem d_6_accept_21 : decode cX6_accept 21 = .ok (.getfield 90, 3) := by decide +kernel
theorem d_6_accept_24 : decode cX6_accept 24 = .ok (.invokevirtual 47, 3) := by decide +kernel
theorem d_6_accept_27 : decode cX6_accept 27 = .ok (.ireturn, 1) := by decide +kernel
theorem d_6_accept_28 : decode cX6_accept 28 = .ok (.aload_n 1, 1) := by decide +kernel
theorem d_6_accept_29 : decode cX6_accept 29 = .ok (.getfield 77, 3) := by decide +kernel
theorem d_6_accept_32 : decode cX6_accept 32 = .ok (.ifCond .ne 38, 3) := by decide +kernel
theorem d_6_accept_35 : decode cX6_accept 35 = .ok (.aload_n 0, 1) := by decide +kernel
theorem d_6_accept_36 : decode cX6_accept 36 = .ok (.getfield 14, 3) := by decide +kernel
theorem d_6_accept_39 : decode cX6_accept 39 = .ok (.aload_n 1, 1) := by decide +kernel
theorem d_6_accept_40 : decode cX6_accept 40 = .ok (.getfield 83, 3) := by decide +kernel
theorem d_6_accept_43 : decode cX6_accept 43 = .ok (.invokevirtual 59, 3) := by decide +kernel
theorem d_6_accept_46 : decode cX6_accept 46 = .ok (.iconst (-1), 1) := by decide +kernel
theorem d_6_accept_47 : decode cX6_accept 47 = .ok (.if_icmp .ne 21, 3) := by decide +kernel
theorem d_6_accept_50 : decode cX6_accept 50 = .ok (.aload_n 0, 1) := by decide +kernel
theorem d_6_accept_51 : decode cX6_accept 51 = .ok (.getfield 14, 3) := by decide +kernel
theorem d_6_accept_54 : decode cX6_accept 54 = .ok (.aload_n 1, 1) := by decide +kernel
theorem d_6_accept_55 : decode cX6_accept 55 = .ok (.getfield 83, 3) := by decide +kernel
theorem d_6_accept_58 : decode cX6_accept 58 = .ok (.invokevirtual 93, 3) := by decide +kernel
theorem d_6_accept_61 : decode cX6_accept 61 = .ok (.ifCond .eq 7, 3) := by decide +kernel
theorem d_6_accept_64 : decode cX6_accept 64 = .ok (.iconst 1, 1) := by decide +kernel
theorem d_6_accept_65 : decode cX6_accept 65 = .ok (.goto 4, 3) := by decide +kernel
theorem d_6_accept_68 : decode cX6_accept 68 = .ok (.iconst 0, 1) := by decide +kernel
theorem d_6_accept_69 : decode cX6_accept 69 = .ok (.ireturn, 1) := by decide +kernel
theorem d_6_accept_70 : decode cX6_accept 70 = .ok (.aload_n 0, 1) := by decide +kernel
theorem d_6_accept_71 : decode cX6_accept 71 = .ok (.getfield 20, 3) := by decide +kernel
theorem d_6_accept_74 : decode cX6_accept 74 = .ok (.aload_n 1, 1) := by decide +kernel
theorem d_6_accept_75 : decode cX6_accept 75 = .ok (.getfield 83, 3) := by decide +kernel
theorem d_6_accept_78 : decode cX6_accept 78 = .ok (.invokevirtual 59, 3) := by decide +kernel
theorem d_6_accept_81 : decode cX6_accept 81 = .ok (.istore_n 2, 1) := by decide +kernel
theorem d_6_accept_82 : decode cX6_accept 82 = .ok (.iload_n 2, 1) := by decide +kernel
theorem d_6_accept_83 : decode cX6_accept 83 = .ok (.iconst (-1), 1) := by decide +kernel
theorem d_6_accept_84 : decode cX6_accept 84 = .ok (.if_icmp .ne 37, 3) := by decide +kernel
theorem d_6_accept_87 : decode cX6_accept 87 = .ok (.aload_n 0, 1) := by decide +kernel
theorem d_6_accept_88 : decode cX6_accept 88 = .ok (.getfield 20, 3) := by decide +kernel
theorem d_6_accept_91 : decode cX6_accept 91 = .ok (.aload_n 1, 1) := by decide +kernel
theorem d_6_accept_92 : decode cX6_accept 92 = .ok (.getfield 83, 3) := by decide +kernel
theorem d_6_accept_95 : decode cX6_accept 95 = .ok (.invokevirtual 93, 3) := by decide +kernel
theorem d_6_accept_98 : decode cX6_accept 98 = .ok (.ifCond .eq 21, 3) := by decide +kernel
theorem d_6_accept_101 : decode cX6_accept 101 = .ok (.aload_n 0, 1) := by decide +kernel
theorem d_6_accept_102 : decode cX6_accept 102 = .ok (.getfield 23, 3) := by decide +kernel
theorem d_6_accept_105 : decode cX6_accept 105 = .ok (.aload_n 1, 1) := by decide +kernel
theorem d_6_accept_106 : decode cX6_accept 106 = .ok (.getfield 87, 3) := by decide +kernel
theorem d_6_accept_109 : decode cX6_accept 109 = .ok (.invokevirtual 93, 3) := by decide +kernel
theorem d_6_accept_112 : decode cX6_accept 112 = .ok (.ifCond .eq 7, 3) := by decide +kernel
theorem d_6_accept_115 : decode cX6_accept 115 = .ok (.iconst 1, 1) := by decide +kernel
theorem d_6_accept_116 : decode cX6_accept 116 = .ok (.goto 4, 3) := by decide +kernel
theorem d_6_accept_119 : decode cX6_accept 119 = .ok (.iconst 0, 1) := by decide +kernel
theorem d_6_accept_120 : decode cX6_accept 120 = .ok (.ireturn, 1) := by decide +kernel
theorem d_6_accept_121 : decode cX6_accept 121 = .ok (.aload_n 0, 1) := by decide +kernel
theorem d_6_accept_122 : decode cX6_accept 122 = .ok (.getfield 23, 3) := by decide +kernel
theorem d_6_accept_125 : decode cX6_accept 125 = .ok (.iload_n 2, 1) := by decide +kernel
theorem d_6_accept_126 : decode cX6_accept 126 = .ok (.aload_n 1, 1) := by decide +kernel
theorem d_6_accept_127 : decode cX6_accept 127 = .ok (.getfield 87, 3) := by decide +kernel
theorem d_6_accept_130 : decode cX6_accept 130 = .ok (.invokevirtual 96, 3) := by decide +kernel
theorem d_6_accept_133 : decode cX6_accept 133 = .ok (.iconst 1, 1) := by decide +kernel
theorem d_6_accept_134 : decode cX6_accept 134 = .ok (.ireturn, 1) := by decide +kernel
theorem d_6_copyFrom_0 : decode cX6_copyFrom 0 = .ok (.aload_n 0, 1) := by decide +kernel
theorem d_6_copyFrom_1 : decode cX6_copyFrom 1 = .ok (.getfield 14, 3) := by decide +kernel
theorem d_6_copyFrom_4 : decode cX6_copyFrom 4 = .ok (.aload_n 1, 1) := by decide +kernel
theorem d_6_copyFrom_5 : decode cX6_copyFrom 5 = .ok (.getfield 14, 3) := by decide +kernel
theorem d_6_copyFrom_8 : decode cX6_copyFrom 8 = .ok (.invokevirtual 99, 3) := by decide +kernel
theorem d_6_copyFrom_11 : decode cX6_copyFrom 11 = .ok (.aload_n 0, 1) := by decide +kernel
theorem d_6_copyFrom_12 : decode cX6_copyFrom 12 = .ok (.getfield 20, 3) := by decide +kernel
theorem d_6_copyFrom_15 : decode cX6_copyFrom 15 = .ok (.aload_n 1, 1) := by decide +kernel
theorem d_6_copyFrom_16 : decode cX6_copyFrom 16 = .ok (.getfield 20, 3) := by decide +kernel
theorem d_6_copyFrom_19 : decode cX6_copyFrom 19 = .ok (.invokevirtual 99, 3) := by decide +kernel
theorem d_6_copyFrom_22 : decode cX6_copyFrom 22 = .ok (.aload_n 0, 1) := by decide +kernel
theorem d_6_copyFrom_23 : decode cX6_copyFrom 23 = .ok (.getfield 23, 3) := by decide +kernel
theorem d_6_copyFrom_26 : decode cX6_copyFrom 26 = .ok (.aload_n 1, 1) := by decide +kernel
theorem d_6_copyFrom_27 : decode cX6_copyFrom 27 = .ok (.getfield 23, 3) := by decide +kernel
theorem d_6_copyFrom_30 : decode cX6_copyFrom 30 = .ok (.invokevirtual 99, 3) := by decide +kernel
theorem d_6_copyFrom_33 : decode cX6_copyFrom 33 = .ok (.aload_n 0, 1) := by decide +kernel
theorem d_6_copyFrom_34 : decode cX6_copyFrom 34 = .ok (.getfield 29, 3) := by decide +kernel
theorem d_6_copyFrom_37 : decode cX6_copyFrom 37 = .ok (.aload_n 1, 1) := by decide +kernel
theorem d_6_copyFrom_38 : decode cX6_copyFrom 38 = .ok (.getfield 29, 3) := by decide +kernel
theorem d_6_copyFrom_41 : decode cX6_copyFrom 41 = .ok (.invokevirtual 103, 3) := by decide +kernel
theorem d_6_copyFrom_44 : decode cX6_copyFrom 44 = .ok (.aload_n 0, 1) := by decide +kernel
theorem d_6_copyFrom_45 : decode cX6_copyFrom 45 = .ok (.getfield 36, 3) := by decide +kernel
theorem d_6_copyFrom_48 : decode cX6_copyFrom 48 = .ok (.aload_n 1, 1) := by decide +kernel
theorem d_6_copyFrom_49 : decode cX6_copyFrom 49 = .ok (.getfield 36, 3) := by decide +kernel
theorem d_6_copyFrom_52 : decode cX6_copyFrom 52 = .ok (.invokevirtual 106, 3) := by decide +kernel
theorem d_6_copyFrom_55 : decode cX6_copyFrom 55 = .ok (.aload_n 0, 1) := by decide +kernel
theorem d_6_copyFrom_56 : decode cX6_copyFrom 56 = .ok (.aload_n 1, 1) := by decide +kernel
theorem d_6_copyFrom_57 : decode cX6_copyFrom 57 = .ok (.getfield 109, 3) := by decide +kernel
theorem d_6_copyFrom_60 : decode cX6_copyFrom 60 = .ok (.putfield 109, 3) := by decide +kernel
theorem d_6_copyFrom_63 : decode cX6_copyFrom 63 = .ok (.aload_n 0, 1) := by decide +kernel
theorem d_6_copyFrom_64 : decode cX6_copyFrom 64 = .ok (.aload_n 1, 1) := by decide +kernel
theorem d_6_copyFrom_65 : decode cX6_copyFrom 65 = .ok (.getfield 112, 3) := by decide +kernel
theorem d_6_copyFrom_68 : decode cX6_copyFrom 68 = .ok (.putfield 112, 3) := by decide +kernel
theorem d_6_copyFrom_71 : decode cX6_copyFrom 71 = .ok (.return_, 1) := by decide +kernel
theorem d_7_init_0 : decode cX7_init 0 = .ok (.aload_n 0, 1) := by decide +kernel
theorem d_7_init_1 : decode cX7_init 1 = .ok (.invokespecial 3, 3) := by decide +kernel
theorem d_7_init_4 : decode cX7_init 4 = .ok (.aload_n 0, 1) := by decide +kernel
theorem d_7_init_5 : decode cX7_init 5 = .ok (.bipush 16, 2) := by decide +kernel
theorem d_7_init_7 : decode cX7_init 7 = .ok (.newarray .char, 2) := by decide +kernel
theorem d_7_init_9 : decode cX7_init 9 = .ok (.putfield 9, 3) := by decide +kernel
theorem d_7_init_12 : decode cX7_init 12 = .ok (.return_, 1) := by decide +kernel
theorem d_7_length_0 : decode cX7_length 0 = .ok (.aload_n 0, 1) := by decide +kernel
theorem d_7_length_1 : decode cX7_length 1 = .ok (.getfield 15, 3) := by decide +kernel
theorem d_7_length_4 : decode cX7_length 4 = .ok (.ireturn, 1) := by decide +kernel
theorem d_7_letter_0 : decode cX7_letter 0 = .ok (.iload_n 1, 1) := by decide +kernel
theorem d_7_letter_1 : decode cX7_letter 1 = .ok (.ifCond .lt 24, 3) := by decide +kernel
theorem d_7_letter_4 : decode cX7_letter 4 = .ok (.iload_n 1, 1) := by decide +kernel
theorem d_7_letter_5 : decode cX7_letter 5 = .ok (.aload_n 0, 1) := by decide +kernel
theorem d_7_letter_6 : decode cX7_letter 6 = .ok (.getfield 15, 3) := by decide +kernel
theorem d_7_letter_9 : decode cX7_letter 9 = .ok (.if_icmp .ge 16, 3) := by decide +kernel
theorem d_7_letter_12 : decode cX7_letter 12 = .ok (.iload_n 1, 1) := by decide +kernel
theorem d_7_letter_13 : decode cX7_letter 13 = .ok (.aload_n 0, 1) := by decide +kernel
theorem d_7_letter_14 : decode cX7_letter 14 = .ok (.getfield 9, 3) := by decide +kernel
theorem d_7_letter_17 : decode cX7_letter 17 = .ok (.arraylength, 1) := by decide +kernel
theorem d_7_letter_18 : decode cX7_letter 18 = .ok (.if_icmp .ge 7, 3) := by decide +kernel
theorem d_7_letter_21 : decode cX7_letter 21 = .ok (.iconst 1, 1) := by decide +kernel
theorem d_7_letter_22 : decode cX7_letter 22 = .ok (.goto 4, 3) := by decide +kernel
theorem d_7_letter_25 : decode cX7_letter 25 = .ok (.iconst 0, 1) := by decide +kernel
theorem d_7_letter_26 : decode cX7_letter 26 = .ok (.istore_n 2, 1) := by decide +kernel
theorem d_7_letter_27 : decode cX7_letter 27 = .ok (.iload_n 2, 1) := by decide +kernel
theorem d_7_letter_28 : decode cX7_letter 28 = .ok (.ifCond .eq 12, 3) := by decide +kernel
theorem d_7_letter_31 : decode cX7_letter 31 = .ok (.aload_n 0, 1) := by decide +kernel
theorem d_7_letter_32 : decode cX7_letter 32 = .ok (.getfield 9, 3) := by decide +kernel
theorem d_7_letter_35 : decode cX7_letter 35 = .ok (.iload_n 1, 1) := by decide +kernel
theorem d_7_letter_36 : decode cX7_letter 36 = .ok (.caload, 1) := by decide +kernel
theorem d_7_letter_37 : decode cX7_letter 37 = .ok (.goto 4, 3) := by decide +kernel
theorem d_7_letter_40 : decode cX7_letter 40 = .ok (.iconst 0, 1) := by decide +kernel
theorem d_7_letter_41 : decode cX7_letter 41 = .ok (.ireturn, 1) := by decide +kernel
theorem d_7_clear_0 : decode cX7_clear 0 = .ok (.aload_n 0, 1) := by decide +kernel
theorem d_7_clear_1 : decode cX7_clear 1 = .ok (.iconst 0, 1) := by decide +kernel
theorem d_7_clear_2 : decode cX7_clear 2 = .ok (.putfield 15, 3) := by decide +kernel
theorem d_7_clear_5 : decode cX7_clear 5 = .ok (.return_, 1) := by decide +kernel
theorem d_7_append_0 : decode cX7_append 0 = .ok (.aload_n 0, 1) := by decide +kernel
theorem d_7_append_1 : decode cX7_append 1 = .ok (.getfield 15, 3) := by decide +kernel
theorem d_7_append_4 : decode cX7_append 4 = .ok (.ifCond .lt 35, 3) := by decide +kernel
theorem d_7_append_7 : decode cX7_append 7 = .ok (.aload_n 0, 1) := by decide +kernel
theorem d_7_append_8 : decode cX7_append 8 = .ok (.getfield 15, 3) := by decide +kernel
theorem d_7_append_11 : decode cX7_append 11 = .ok (.aload_n 0, 1) := by decide +kernel
theorem d_7_append_12 : decode cX7_append 12 = .ok (.getfield 9, 3) := by decide +kernel
theorem d_7_append_15 : decode cX7_append 15 = .ok (.arraylength, 1) := by decide +kernel
theorem d_7_append_16 : decode cX7_append 16 = .ok (.if_icmp .ge 23, 3) := by decide +kernel
theorem d_7_append_19 : decode cX7_append 19 = .ok (.aload_n 0, 1) := by decide +kernel
theorem d_7_append_20 : decode cX7_append 20 = .ok (.getfield 9, 3) := by decide +kernel
theorem d_7_append_23 : decode cX7_append 23 = .ok (.aload_n 0, 1) := by decide +kernel
theorem d_7_append_24 : decode cX7_append 24 = .ok (.getfield 15, 3) := by decide +kernel
theorem d_7_append_27 : decode cX7_append 27 = .ok (.iload_n 1, 1) := by decide +kernel
theorem d_7_append_28 : decode cX7_append 28 = .ok (.castore, 1) := by decide +kernel
theorem d_7_append_29 : decode cX7_append 29 = .ok (.aload_n 0, 1) := by decide +kernel
theorem d_7_append_30 : decode cX7_append 30 = .ok (.dup, 1) := by decide +kernel
theorem d_7_append_31 : decode cX7_append 31 = .ok (.getfield 15, 3) := by decide +kernel
theorem d_7_append_34 : decode cX7_append 34 = .ok (.iconst 1, 1) := by decide +kernel
theorem d_7_append_35 : decode cX7_append 35 = .ok (.iadd, 1) := by decide +kernel
theorem d_7_append_36 : decode cX7_append 36 = .ok (.putfield 15, 3) := by decide +kernel
theorem d_7_append_39 : decode cX7_append 39 = .ok (.return_, 1) := by decide +kernel
theorem d_7_shorten_0 : decode cX7_shorten 0 = .ok (.aload_n 0, 1) := by decide +kernel
theorem d_7_shorten_1 : decode cX7_shorten 1 = .ok (.iconst 0, 1) := by decide +kernel
theorem d_7_shorten_2 : decode cX7_shorten 2 = .ok (.aload_n 0, 1) := by decide +kernel
theorem d_7_shorten_3 : decode cX7_shorten 3 = .ok (.getfield 15, 3) := by decide +kernel
theorem d_7_shorten_6 : decode cX7_shorten 6 = .ok (.iload_n 1, 1) := by decide +kernel
theorem d_7_shorten_7 : decode cX7_shorten 7 = .ok (.isub, 1) := by decide +kernel
theorem d_7_shorten_8 : decode cX7_shorten 8 = .ok (.invokestatic 19, 3) := by decide +kernel
theorem d_7_shorten_11 : decode cX7_shorten 11 = .ok (.putfield 15, 3) := by decide +kernel
theorem d_7_shorten_14 : decode cX7_shorten 14 = .ok (.return_, 1) := by decide +kernel
theorem d_7_isSame_0 : decode cX7_isSame 0 = .ok (.aload_n 0, 1) := by decide +kernel
theorem d_7_isSame_1 : decode cX7_isSame 1 = .ok (.getfield 15, 3) := by decide +kernel
theorem d_7_isSame_4 : decode cX7_isSame 4 = .ok (.aload_n 1, 1) := by decide +kernel
theorem d_7_isSame_5 : decode cX7_isSame 5 = .ok (.getfield 15, 3) := by decide +kernel
theorem d_7_isSame_8 : decode cX7_isSame 8 = .ok (.if_icmp .eq 5, 3) := by decide +kernel
theorem d_7_isSame_11 : decode cX7_isSame 11 = .ok (.iconst 0, 1) := by decide +kernel
theorem d_7_isSame_12 : decode cX7_isSame 12 = .ok (.ireturn, 1) := by decide +kernel
theorem d_7_isSame_13 : decode cX7_isSame 13 = .ok (.iconst 0, 1) := by decide +kernel
theorem d_7_isSame_14 : decode cX7_isSame 14 = .ok (.istore_n 2, 1) := by decide +kernel
theorem d_7_isSame_15 : decode cX7_isSame 15 = .ok (.iload_n 2, 1) := by decide +kernel
theorem d_7_isSame_16 : decode cX7_isSame 16 = .ok (.aload_n 0, 1) := by decide +kernel
theorem d_7_isSame_17 : decode cX7_isSame 17 = .ok (.getfield 15, 3) := by decide +kernel
theorem d_7_isSame_20 : decode cX7_isSame 20 = .ok (.if_icmp .ge 24, 3) := by decide +kernel
theorem d_7_isSame_23 : decode cX7_isSame 23 = .ok (.aload_n 0, 1) := by decide +kernel
theorem d_7_isSame_24 : decode cX7_isSame 24 = .ok (.iload_n 2, 1) := by decide +kernel
theorem d_7_isSame_25 : decode cX7_isSame 25 = .ok (.invokevirtual 25, 3) := by decide +kernel
theorem d_7_isSame_28 : decode cX7_isSame 28 = .ok (.aload_n 1, 1) := by decide +kernel
theorem d_7_isSame_29 : decode cX7_isSame 29 = .ok (.iload_n 2, 1) := by decide +kernel
theorem d_7_isSame_30 : decode cX7_isSame 30 = .ok (.invokevirtual 25, 3) := by decide +kernel
theorem d_7_isSame_33 : decode cX7_isSame 33 = .ok (.if_icmp .eq 5, 3) := by decide +kernel
theorem d_7_isSame_36 : decode cX7_isSame 36 = .ok (.iconst 0, 1) := by decide +kernel
theorem d_7_isSame_37 : decode cX7_isSame 37 = .ok (.ireturn, 1) := by decide +kernel
theorem d_7_isSame_38 : decode cX7_isSame 38 = .ok (.iinc 2 1, 3) := by decide +kernel
theorem d_7_isSame_41 : decode cX7_isSame 41 = .ok (.goto (-26), 3) := by decide +kernel
theorem d_7_isSame_44 : decode cX7_isSame 44 = .ok (.iconst 1, 1) := by decide +kernel
theorem d_7_isSame_45 : decode cX7_isSame 45 = .ok (.ireturn, 1) := by decide +kernel
theorem d_7_copyFrom_0 : decode cX7_copyFrom 0 = .ok (.aload_n 1, 1) := by decide +kernel
theorem d_7_copyFrom_1 : decode cX7_copyFrom 1 = .ok (.getfield 9, 3) := by decide +kernel
theorem d_7_copyFrom_4 : decode cX7_copyFrom 4 = .ok (.iconst 0, 1) := by decide +kernel
theorem d_7_copyFrom_5 : decode cX7_copyFrom 5 = .ok (.aload_n 0, 1) := by decide +kernel
theorem d_7_copyFrom_6 : decode cX7_copyFrom 6 = .ok (.getfield 9, 3) := by decide +kernel
theorem d_7_copyFrom_9 : decode cX7_copyFrom 9 = .ok (.iconst 0, 1) := by decide +kernel
theorem d_7_copyFrom_10 : decode cX7_copyFrom 10 = .ok (.aload_n 1, 1) := by decide +kernel
theorem d_7_copyFrom_11 : decode cX7_copyFrom 11 = .ok (.getfield 9, 3) := by decide +kernel
theorem d_7_copyFrom_14 : decode cX7_copyFrom 14 = .ok (.arraylength, 1) := by decide +kernel
theorem d_7_copyFrom_15 : decode cX7_copyFrom 15 = .ok (.aload_n 0, 1) := by decide +kernel
theorem d_7_copyFrom_16 : decode cX7_copyFrom 16 = .ok (.getfield 9, 3) := by decide +kernel
theorem d_7_copyFrom_19 : decode cX7_copyFrom 19 = .ok (.arraylength, 1) := by decide +kernel
theorem d_7_copyFrom_20 : decode cX7_copyFrom 20 = .ok (.invokestatic 29, 3) := by decide +kernel
theorem d_7_copyFrom_23 : decode cX7_copyFrom 23 = .ok (.invokestatic 32, 3) := by decide +kernel
theorem d_7_copyFrom_26 : decode cX7_copyFrom 26 = .ok (.aload_n 0, 1) := by decide +kernel
theorem d_7_copyFrom_27 : decode cX7_copyFrom 27 = .ok (.aload_n 1, 1) := by decide +kernel
theorem d_7_copyFrom_28 : decode cX7_copyFrom 28 = .ok (.getfield 15, 3) := by decide +kernel
theorem d_7_copyFrom_31 : decode cX7_copyFrom 31 = .ok (.putfield 15, 3) := by decide +kernel
theorem d_7_copyFrom_34 : decode cX7_copyFrom 34 = .ok (.return_, 1) := by decide +kernel
theorem d_8_init_0 : decode cX8_init 0 = .ok (.aload_n 0, 1) := by decide +kernel
theorem d_8_init_1 : decode cX8_init 1 = .ok (.invokespecial 3, 3) := by decide +kernel
theorem d_8_init_4 : decode cX8_init 4 = .ok (.aload_n 0, 1) := by decide +kernel
theorem d_8_init_5 : decode cX8_init 5 = .ok (.iconst 0, 1) := by decide +kernel
theorem d_8_init_6 : decode cX8_init 6 = .ok (.iload_n 2, 1) := by decide +kernel
theorem d_8_init_7 : decode cX8_init 7 = .ok (.invokestatic 9, 3) := by decide +kernel
theorem d_8_init_10 : decode cX8_init 10 = .ok (.putfield 15, 3) := by decide +kernel
theorem d_8_init_13 : decode cX8_init 13 = .ok (.aload_n 0, 1) := by decide +kernel
theorem d_8_init_14 : decode cX8_init 14 = .ok (.iconst 0, 1) := by decide +kernel
theorem d_8_init_15 : decode cX8_init 15 = .ok (.iload_n 1, 1) := by decide +kernel
theorem d_8_init_16 : decode cX8_init 16 = .ok (.iload_n 2, 1) := by decide +kernel
theorem d_8_init_17 : decode cX8_init 17 = .ok (.imul, 1) := by decide +kernel
theorem d_8_init_18 : decode cX8_init 18 = .ok (.invokestatic 9, 3) := by decide +kernel
theorem d_8_init_21 : decode cX8_init 21 = .ok (.newarray .char, 2) := by decide +kernel
theorem d_8_init_23 : decode cX8_init 23 = .ok (.putfield 21, 3) := by decide +kernel
theorem d_8_init_26 : decode cX8_init 26 = .ok (.aload_n 0, 1) := by decide +kernel
theorem d_8_init_27 : decode cX8_init 27 = .ok (.iconst 0, 1) := by decide +kernel
theorem d_8_init_28 : decode cX8_init 28 = .ok (.iload_n 1, 1) := by decide +kernel
theorem d_8_init_29 : decode cX8_init 29 = .ok (.invokestatic 9, 3) := by decide +kernel
theorem d_8_init_32 : decode cX8_init 32 = .ok (.newarray .int, 2) := by decide +kernel
theorem d_8_init_34 : decode cX8_init 34 = .ok (.putfield 25, 3) := by decide +kernel
theorem d_8_init_37 : decode cX8_init 37 = .ok (.return_, 1) := by decide +kernel
theorem d_8_count_0 : decode cX8_count 0 = .ok (.aload_n 0, 1) := by decide +kernel
theorem d_8_count_1 : decode cX8_count 1 = .ok (.getfield 29, 3) := by decide +kernel
theorem d_8_count_4 : decode cX8_count 4 = .ok (.ireturn, 1) := by decide +kernel
theorem d_8_isFull_0 : decode cX8_isFull 0 = .ok (.aload_n 0, 1) := by decide +kernel
theorem d_8_isFull_1 : decode cX8_isFull 1 = .ok (.getfield 29, 3) := by decide +kernel
theorem d_8_isFull_4 : decode cX8_isFull 4 = .ok (.aload_n 0, 1) := by decide +kernel
theorem d_8_isFull_5 : decode cX8_isFull 5 = .ok (.getfield 25, 3) := by decide +kernel
theorem d_8_isFull_8 : decode cX8_isFull 8 = .ok (.arraylength, 1) := by decide +kernel
theorem d_8_isFull_9 : decode cX8_isFull 9 = .ok (.if_icmp .lt 7, 3) := by decide +kernel
theorem d_8_isFull_12 : decode cX8_isFull 12 = .ok (.iconst 1, 1) := by decide +kernel
theorem d_8_isFull_13 : decode cX8_isFull 13 = .ok (.goto 4, 3) := by decide +kernel
theorem d_8_isFull_16 : decode cX8_isFull 16 = .ok (.iconst 0, 1) := by decide +kernel
theorem d_8_isFull_17 : decode cX8_isFull 17 = .ok (.ireturn, 1) := by decide +kernel
theorem d_8_lengthOf_0 : decode cX8_lengthOf 0 = .ok (.iload_n 1, 1) := by decide +kernel
theorem d_8_lengthOf_1 : decode cX8_lengthOf 1 = .ok (.ifCond .lt 29, 3) := by decide +kernel
theorem d_8_lengthOf_4 : decode cX8_lengthOf 4 = .ok (.iload_n 1, 1) := by decide +kernel
theorem d_8_lengthOf_5 : decode cX8_lengthOf 5 = .ok (.aload_n 0, 1) := by decide +kernel
theorem d_8_lengthOf_6 : decode cX8_lengthOf 6 = .ok (.getfield 29, 3) := by decide +kernel
theorem d_8_lengthOf_9 : decode cX8_lengthOf 9 = .ok (.if_icmp .ge 21, 3) := by decide +kernel
theorem d_8_lengthOf_12 : decode cX8_lengthOf 12 = .ok (.iload_n 1, 1) := by decide +kernel
theorem d_8_lengthOf_13 : decode cX8_lengthOf 13 = .ok (.aload_n 0, 1) := by decide +kernel
theorem d_8_lengthOf_14 : decode cX8_lengthOf 14 = .ok (.getfield 25, 3) := by decide +kernel
theorem d_8_lengthOf_17 : decode cX8_lengthOf 17 = .ok (.arraylength, 1) := by decide +kernel
theorem d_8_lengthOf_18 : decode cX8_lengthOf 18 = .ok (.if_icmp .ge 12, 3) := by decide +kernel
theorem d_8_lengthOf_21 : decode cX8_lengthOf 21 = .ok (.aload_n 0, 1) := by decide +kernel
theorem d_8_lengthOf_22 : decode cX8_lengthOf 22 = .ok (.getfield 25, 3) := by decide +kernel
theorem d_8_lengthOf_25 : decode cX8_lengthOf 25 = .ok (.iload_n 1, 1) := by decide +kernel
theorem d_8_lengthOf_26 : decode cX8_lengthOf 26 = .ok (.iaload, 1) := by decide +kernel
theorem d_8_lengthOf_27 : decode cX8_lengthOf 27 = .ok (.goto 4, 3) := by decide +kernel
theorem d_8_lengthOf_30 : decode cX8_lengthOf 30 = .ok (.iconst 0, 1) := by decide +kernel
theorem d_8_lengthOf_31 : decode cX8_lengthOf 31 = .ok (.ireturn, 1) := by decide +kernel
theorem d_8_letterOf_0 : decode cX8_letterOf 0 = .ok (.iload_n 1, 1) := by decide +kernel
theorem d_8_letterOf_1 : decode cX8_letterOf 1 = .ok (.aload_n 0, 1) := by decide +kernel
theorem d_8_letterOf_2 : decode cX8_letterOf 2 = .ok (.getfield 15, 3) := by decide +kernel
theorem d_8_letterOf_5 : decode cX8_letterOf 5 = .ok (.imul, 1) := by decide +kernel
theorem d_8_letterOf_6 : decode cX8_letterOf 6 = .ok (.iload_n 2, 1) := by decide +kernel
theorem d_8_letterOf_7 : decode cX8_letterOf 7 = .ok (.iadd, 1) := by decide +kernel
theorem d_8_letterOf_8 : decode cX8_letterOf 8 = .ok (.istore_n 3, 1) := by decide +kernel
theorem d_8_letterOf_9 : decode cX8_letterOf 9 = .ok (.iload_n 3, 1) := by decide +kernel
theorem d_8_letterOf_10 : decode cX8_letterOf 10 = .ok (.ifCond .lt 21, 3) := by decide +kernel
theorem d_8_letterOf_13 : decode cX8_letterOf 13 = .ok (.iload_n 3, 1) := by decide +kernel
theorem d_8_letterOf_14 : decode cX8_letterOf 14 = .ok (.aload_n 0, 1) := by decide +kernel
theorem d_8_letterOf_15 : decode cX8_letterOf 15 = .ok (.getfield 21, 3) := by decide +kernel
theorem d_8_letterOf_18 : decode cX8_letterOf 18 = .ok (.arraylength, 1) := by decide +kernel
theorem d_8_letterOf_19 : decode cX8_letterOf 19 = .ok (.if_icmp .ge 12, 3) := by decide +kernel
theorem d_8_letterOf_22 : decode cX8_letterOf 22 = .ok (.aload_n 0, 1) := by decide +kernel
theorem d_8_letterOf_23 : decode cX8_letterOf 23 = .ok (.getfield 21, 3) := by decide +kernel
theorem d_8_letterOf_26 : decode cX8_letterOf 26 = .ok (.iload_n 3, 1) := by decide +kernel
theorem d_8_letterOf_27 : decode cX8_letterOf 27 = .ok (.caload, 1) := by decide +kernel
theorem d_8_letterOf_28 : decode cX8_letterOf 28 = .ok (.goto 4, 3) := by decide +kernel
theorem d_8_letterOf_31 : decode cX8_letterOf 31 = .ok (.iconst 0, 1) := by decide +kernel
theorem d_8_letterOf_32 : decode cX8_letterOf 32 = .ok (.ireturn, 1) := by decide +kernel
theorem d_8_clear_0 : decode cX8_clear 0 = .ok (.aload_n 0, 1) := by decide +kernel
theorem d_8_clear_1 : decode cX8_clear 1 = .ok (.iconst 0, 1) := by decide +kernel
theorem d_8_clear_2 : decode cX8_clear 2 = .ok (.putfield 29, 3) := by decide +kernel
theorem d_8_clear_5 : decode cX8_clear 5 = .ok (.return_, 1) := by decide +kernel
theorem d_8_add_0 : decode cX8_add 0 = .ok (.aload_n 0, 1) := by decide +kernel
theorem d_8_add_1 : decode cX8_add 1 = .ok (.invokevirtual 32, 3) := by decide +kernel
theorem d_8_add_4 : decode cX8_add 4 = .ok (.ifCond .eq 5, 3) := by decide +kernel
theorem d_8_add_7 : decode cX8_add 7 = .ok (.iconst 0, 1) := by decide +kernel
theorem d_8_add_8 : decode cX8_add 8 = .ok (.ireturn, 1) := by decide +kernel
theorem d_8_add_9 : decode cX8_add 9 = .ok (.aload_n 0, 1) := by decide +kernel
theorem d_8_add_10 : decode cX8_add 10 = .ok (.dup, 1) := by decide +kernel
theorem d_8_add_11 : decode cX8_add 11 = .ok (.getfield 29, 3) := by decide +kernel
theorem d_8_add_14 : decode cX8_add 14 = .ok (.iconst 1, 1) := by decide +kernel
theorem d_8_add_15 : decode cX8_add 15 = .ok (.iadd, 1) := by decide +kernel
theorem d_8_add_16 : decode cX8_add 16 = .ok (.putfield 29, 3) := by decide +kernel
theorem d_8_add_19 : decode cX8_add 19 = .ok (.aload_n 0, 1) := by decide +kernel
theorem d_8_add_20 : decode cX8_add 20 = .ok (.aload_n 0, 1) := by decide +kernel
theorem d_8_add_21 : decode cX8_add 21 = .ok (.getfield 29, 3) := by decide +kernel
theorem d_8_add_24 : decode cX8_add 24 = .ok (.iconst 1, 1) := by decide +kernel
theorem d_8_add_25 : decode cX8_add 25 = .ok (.isub, 1) := by decide +kernel
theorem d_8_add_26 : decode cX8_add 26 = .ok (.aload_n 1, 1) := by decide +kernel
theorem d_8_add_27 : decode cX8_add 27 = .ok (.invokevirtual 36, 3) := by decide +kernel
theorem d_8_add_30 : decode cX8_add 30 = .ok (.iconst 1, 1) := by decide +kernel
theorem d_8_add_31 : decode cX8_add 31 = .ok (.ireturn, 1) := by decide +kernel
theorem d_8_put_0 : decode cX8_put 0 = .ok (.iload_n 1, 1) := by decide +kernel
theorem d_8_put_1 : decode cX8_put 1 = .ok (.ifCond .lt 20, 3) := by decide +kernel
theorem d_8_put_4 : decode cX8_put 4 = .ok (.iload_n 1, 1) := by decide +kernel
theorem d_8_put_5 : decode cX8_put 5 = .ok (.aload_n 0, 1) := by decide +kernel
theorem d_8_put_6 : decode cX8_put 6 = .ok (.getfield 29, 3) := by decide +kernel
theorem d_8_put_9 : decode cX8_put 9 = .ok (.if_icmp .ge 12, 3) := by decide +kernel
theorem d_8_put_12 : decode cX8_put 12 = .ok (.iload_n 1, 1) := by decide +kernel
theorem d_8_put_13 : decode cX8_put 13 = .ok (.aload_n 0, 1) := by decide +kernel
theorem d_8_put_14 : decode cX8_put 14 = .ok (.getfield 25, 3) := by decide +kernel
theorem d_8_put_17 : decode cX8_put 17 = .ok (.arraylength, 1) := by decide +kernel
theorem d_8_put_18 : decode cX8_put 18 = .ok (.if_icmp .lt 4, 3) := by decide +kernel
theorem d_8_put_21 : decode cX8_put 21 = .ok (.return_, 1) := by decide +kernel
theorem d_8_put_22 : decode cX8_put 22 = .ok (.aload_n 0, 1) := by decide +kernel
theorem d_8_put_23 : decode cX8_put 23 = .ok (.getfield 25, 3) := by decide +kernel
theorem d_8_put_26 : decode cX8_put 26 = .ok (.iload_n 1, 1) := by decide +kernel
theorem d_8_put_27 : decode cX8_put 27 = .ok (.aload_n 2, 1) := by decide +kernel
theorem d_8_put_28 : decode cX8_put 28 = .ok (.invokevirtual 40, 3) := by decide +kernel
theorem d_8_put_31 : decode cX8_put 31 = .ok (.aload_n 0, 1) := by decide +kernel
theorem d_8_put_32 : decode cX8_put 32 = .ok (.getfield 15, 3) := by decide +kernel
theorem d_8_put_35 : decode cX8_put 35 = .ok (.invokestatic 46, 3) := by decide +kernel
theorem d_8_put_38 : decode cX8_put 38 = .ok (.iastore, 1) := by decide +kernel
theorem d_8_put_39 : decode cX8_put 39 = .ok (.iconst 0, 1) := by decide +kernel
theorem d_8_put_40 : decode cX8_put 40 = .ok (.istore_n 3, 1) := by decide +kernel
theorem d_8_put_41 : decode cX8_put 41 = .ok (.iload_n 3, 1) := by decide +kernel
theorem d_8_put_42 : decode cX8_put 42 = .ok (.aload_n 0, 1) := by decide +kernel
theorem d_8_put_43 : decode cX8_put 43 = .ok (.getfield 15, 3) := by decide +kernel
theorem d_8_put_46 : decode cX8_put 46 = .ok (.if_icmp .ge 46, 3) := by decide +kernel
theorem d_8_put_49 : decode cX8_put 49 = .ok (.iload_n 1, 1) := by decide +kernel
theorem d_8_put_50 : decode cX8_put 50 = .ok (.aload_n 0, 1) := by decide +kernel
theorem d_8_put_51 : decode cX8_put 51 = .ok (.getfield 15, 3) := by decide +kernel
theorem d_8_put_54 : decode cX8_put 54 = .ok (.imul, 1) := by decide +kernel
theorem d_8_put_55 : decode cX8_put 55 = .ok (.iload_n 3, 1) := by decide +kernel
theorem d_8_put_56 : decode cX8_put 56 = .ok (.iadd, 1) := by decide +kernel
theorem d_8_put_57 : decode cX8_put 57 = .ok (.istore 4, 2) := by decide +kernel
theorem d_8_put_59 : decode cX8_put 59 = .ok (.iload 4, 2) := by decide +kernel
theorem d_8_put_61 : decode cX8_put 61 = .ok (.ifCond .lt 25, 3) := by decide +kernel
theorem d_8_put_64 : decode cX8_put 64 = .ok (.iload 4, 2) := by decide +kernel
theorem d_8_put_66 : decode cX8_put 66 = .ok (.aload_n 0, 1) := by decide +kernel
theorem d_8_put_67 : decode cX8_put 67 = .ok (.getfield 21, 3) := by decide +kernel
theorem d_8_put_70 : decode cX8_put 70 = .ok (.arraylength, 1) := by decide +kernel
theorem d_8_put_71 : decode cX8_put 71 = .ok (.if_icmp .ge 15, 3) := by decide +kernel
theorem d_8_put_74 : decode cX8_put 74 = .ok (.aload_n 0, 1) := by decide +kernel
theorem d_8_put_75 : decode cX8_put 75 = .ok (.getfield 21, 3) := by decide +kernel
theorem d_8_put_78 : decode cX8_put 78 = .ok (.iload 4, 2) := by decide +kernel
theorem d_8_put_80 : decode cX8_put 80 = .ok (.aload_n 2, 1) := by decide +kernel
theorem d_8_put_81 : decode cX8_put 81 = .ok (.iload_n 3, 1) := by decide +kernel
theorem d_8_put_82 : decode cX8_put 82 = .ok (.invokevirtual 49, 3) := by decide +kernel
theorem d_8_put_85 : decode cX8_put 85 = .ok (.castore, 1) := by decide +kernel
theorem d_8_put_86 : decode cX8_put 86 = .ok (.iinc 3 1, 3) := by decide +kernel
theorem d_8_put_89 : decode cX8_put 89 = .ok (.goto (-48), 3) := by decide +kernel
theorem d_8_put_92 : decode cX8_put 92 = .ok (.return_, 1) := by decide +kernel
theorem d_8_remove_0 : decode cX8_remove 0 = .ok (.iload_n 1, 1) := by decide +kernel
theorem d_8_remove_1 : decode cX8_remove 1 = .ok (.ifCond .lt 11, 3) := by decide +kernel
theorem d_8_remove_4 : decode cX8_remove 4 = .ok (.iload_n 1, 1) := by decide +kernel
theorem d_8_remove_5 : decode cX8_remove 5 = .ok (.aload_n 0, 1) := by decide +kernel
theorem d_8_remove_6 : decode cX8_remove 6 = .ok (.getfield 29, 3) := by decide +kernel
theorem d_8_remove_9 : decode cX8_remove 9 = .ok (.if_icmp .lt 4, 3) := by decide +kernel
theorem d_8_remove_12 : decode cX8_remove 12 = .ok (.return_, 1) := by decide +kernel
theorem d_8_remove_13 : decode cX8_remove 13 = .ok (.iload_n 1, 1) := by decide +kernel
theorem d_8_remove_14 : decode cX8_remove 14 = .ok (.aload_n 0, 1) := by decide +kernel
theorem d_8_remove_15 : decode cX8_remove 15 = .ok (.getfield 15, 3) := by decide +kernel
theorem d_8_remove_18 : decode cX8_remove 18 = .ok (.imul, 1) := by decide +kernel
theorem d_8_remove_19 : decode cX8_remove 19 = .ok (.istore_n 2, 1) := by decide +kernel
theorem d_8_remove_20 : decode cX8_remove 20 = .ok (.iload_n 2, 1) := by decide +kernel
theorem d_8_remove_21 : decode cX8_remove 21 = .ok (.aload_n 0, 1) := by decide +kernel
theorem d_8_remove_22 : decode cX8_remove 22 = .ok (.getfield 21, 3) := by decide +kernel
theorem d_8_remove_25 : decode cX8_remove 25 = .ok (.arraylength, 1) := by decide +kernel
theorem d_8_remove_26 : decode cX8_remove 26 = .ok (.aload_n 0, 1) := by decide +kernel
theorem d_8_remove_27 : decode cX8_remove 27 = .ok (.getfield 15, 3) := by decide +kernel
theorem d_8_remove_30 : decode cX8_remove 30 = .ok (.isub, 1) := by decide +kernel
theorem d_8_remove_31 : decode cX8_remove 31 = .ok (.if_icmp .ge 30, 3) := by decide +kernel
theorem d_8_remove_34 : decode cX8_remove 34 = .ok (.iload_n 2, 1) := by decide +kernel
theorem d_8_remove_35 : decode cX8_remove 35 = .ok (.ifCond .lt 20, 3) := by decide +kernel
theorem d_8_remove_38 : decode cX8_remove 38 = .ok (.aload_n 0, 1) := by decide +kernel
theorem d_8_remove_39 : decode cX8_remove 39 = .ok (.getfield 21, 3) := by decide +kernel
theorem d_8_remove_42 : decode cX8_remove 42 = .ok (.iload_n 2, 1) := by decide +kernel
theorem d_8_remove_43 : decode cX8_remove 43 = .ok (.aload_n 0, 1) := by decide +kernel
theorem d_8_remove_44 : decode cX8_remove 44 = .ok (.getfield 21, 3) := by decide +kernel
theorem d_8_remove_47 : decode cX8_remove 47 = .ok (.iload_n 2, 1) := by decide +kernel
theorem d_8_remove_48 : decode cX8_remove 48 = .ok (.aload_n 0, 1) := by decide +kernel
theorem d_8_remove_49 : decode cX8_remove 49 = .ok (.getfield 15, 3) := by decide +kernel
theorem d_8_remove_52 : decode cX8_remove 52 = .ok (.iadd, 1) := by decide +kernel
theorem d_8_remove_53 : decode cX8_remove 53 = .ok (.caload, 1) := by decide +kernel
theorem d_8_remove_54 : decode cX8_remove 54 = .ok (.castore, 1) := by decide +kernel
theorem d_8_remove_55 : decode cX8_remove 55 = .ok (.iinc 2 1, 3) := by decide +kernel
theorem d_8_remove_58 : decode cX8_remove 58 = .ok (.goto (-38), 3) := by decide +kernel
theorem d_8_remove_61 : decode cX8_remove 61 = .ok (.aload_n 0, 1) := by decide +kernel
theorem d_8_remove_62 : decode cX8_remove 62 = .ok (.getfield 25, 3) := by decide +kernel
theorem d_8_remove_65 : decode cX8_remove 65 = .ok (.iload_n 1, 1) := by decide +kernel
theorem d_8_remove_66 : decode cX8_remove 66 = .ok (.invokestatic 53, 3) := by decide +kernel
theorem d_8_remove_69 : decode cX8_remove 69 = .ok (.aload_n 0, 1) := by decide +kernel
theorem d_8_remove_70 : decode cX8_remove 70 = .ok (.dup, 1) := by decide +kernel
theorem d_8_remove_71 : decode cX8_remove 71 = .ok (.getfield 29, 3) := by decide +kernel
theorem d_8_remove_74 : decode cX8_remove 74 = .ok (.iconst 1, 1) := by decide +kernel
theorem d_8_remove_75 : decode cX8_remove 75 = .ok (.isub, 1) := by decide +kernel
theorem d_8_remove_76 : decode cX8_remove 76 = .ok (.putfield 29, 3) := by decide +kernel
theorem d_8_remove_79 : decode cX8_remove 79 = .ok (.return_, 1) := by decide +kernel
theorem d_8_load_0 : decode cX8_load 0 = .ok (.aload_n 2, 1) := by decide +kernel
theorem d_8_load_1 : decode cX8_load 1 = .ok (.invokevirtual 57, 3) := by decide +kernel
theorem d_8_load_4 : decode cX8_load 4 = .ok (.aload_n 0, 1) := by decide +kernel
theorem d_8_load_5 : decode cX8_load 5 = .ok (.iload_n 1, 1) := by decide +kernel
theorem d_8_load_6 : decode cX8_load 6 = .ok (.aload_n 2, 1) := by decide +kernel
theorem d_8_load_7 : decode cX8_load 7 = .ok (.invokevirtual 60, 3) := by decide +kernel
theorem d_8_load_10 : decode cX8_load 10 = .ok (.return_, 1) := by decide +kernel
theorem d_8_appendTo_0 : decode cX8_appendTo 0 = .ok (.aload_n 0, 1) := by decide +kernel
theorem d_8_appendTo_1 : decode cX8_appendTo 1 = .ok (.iload_n 1, 1) := by decide +kernel
theorem d_8_appendTo_2 : decode cX8_appendTo 2 = .ok (.invokevirtual 63, 3) := by decide +kernel
theorem d_8_appendTo_5 : decode cX8_appendTo 5 = .ok (.istore_n 3, 1) := by decide +kernel
theorem d_8_appendTo_6 : decode cX8_appendTo 6 = .ok (.iconst 0, 1) := by decide +kernel
theorem d_8_appendTo_7 : decode cX8_appendTo 7 = .ok (.istore 4, 2) := by decide +kernel
theorem d_8_appendTo_9 : decode cX8_appendTo 9 = .ok (.iload 4, 2) := by decide +kernel
theorem d_8_appendTo_11 : decode cX8_appendTo 11 = .ok (.iload_n 3, 1) := by decide +kernel
theorem d_8_appendTo_12 : decode cX8_appendTo 12 = .ok (.if_icmp .ge 20, 3) := by decide +kernel
theorem d_8_appendTo_15 : decode cX8_appendTo 15 = .ok (.aload_n 2, 1) := by decide +kernel
theorem d_8_appendTo_16 : decode cX8_appendTo 16 = .ok (.aload_n 0, 1) := by decide +kernel
theorem d_8_appendTo_17 : decode cX8_appendTo 17 = .ok (.iload_n 1, 1) := by decide +kernel
theorem d_8_appendTo_18 : decode cX8_appendTo 18 = .ok (.iload 4, 2) := by decide +kernel
theorem d_8_appendTo_20 : decode cX8_appendTo 20 = .ok (.invokevirtual 67, 3) := by decide +kernel
theorem d_8_appendTo_23 : decode cX8_appendTo 23 = .ok (.invokevirtual 71, 3) := by decide +kernel
theorem d_8_appendTo_26 : decode cX8_appendTo 26 = .ok (.iinc 4 1, 3) := by decide +kernel
theorem d_8_appendTo_29 : decode cX8_appendTo 29 = .ok (.goto (-20), 3) := by decide +kernel
theorem d_8_appendTo_32 : decode cX8_appendTo 32 = .ok (.return_, 1) := by decide +kernel
theorem d_8_isSame_0 : decode cX8_isSame 0 = .ok (.aload_n 0, 1) := by decide +kernel
theorem d_8_isSame_1 : decode cX8_isSame 1 = .ok (.iload_n 1, 1) := by decide +kernel
theorem d_8_isSame_2 : decode cX8_isSame 2 = .ok (.invokevirtual 63, 3) := by decide +kernel
theorem d_8_isSame_5 : decode cX8_isSame 5 = .ok (.aload_n 2, 1) := by decide +kernel
theorem d_8_isSame_6 : decode cX8_isSame 6 = .ok (.invokevirtual 40, 3) := by decide +kernel
theorem d_8_isSame_9 : decode cX8_isSame 9 = .ok (.if_icmp .ne 16, 3) := by decide +kernel
theorem d_8_isSame_12 : decode cX8_isSame 12 = .ok (.aload_n 0, 1) := by decide +kernel
theorem d_8_isSame_13 : decode cX8_isSame 13 = .ok (.iload_n 1, 1) := by decide +kernel
theorem d_8_isSame_14 : decode cX8_isSame 14 = .ok (.aload_n 2, 1) := by decide +kernel
theorem d_8_isSame_15 : decode cX8_isSame 15 = .ok (.invokevirtual 75, 3) := by decide +kernel
theorem d_8_isSame_18 : decode cX8_isSame 18 = .ok (.ifCond .eq 7, 3) := by decide +kernel
theorem d_8_isSame_21 : decode cX8_isSame 21 = .ok (.iconst 1, 1) := by decide +kernel
theorem d_8_isSame_22 : decode cX8_isSame 22 = .ok (.goto 4, 3) := by decide +kernel
theorem d_8_isSame_25 : decode cX8_isSame 25 = .ok (.iconst 0, 1) := by decide +kernel
theorem d_8_isSame_26 : decode cX8_isSame 26 = .ok (.ireturn, 1) := by decide +kernel
theorem d_8_isEndOf_0 : decode cX8_isEndOf 0 = .ok (.aload_n 0, 1) := by decide +kernel
theorem d_8_isEndOf_1 : decode cX8_isEndOf 1 = .ok (.iload_n 1, 1) := by decide +kernel
theorem d_8_isEndOf_2 : decode cX8_isEndOf 2 = .ok (.invokevirtual 63, 3) := by decide +kernel
theorem d_8_isEndOf_5 : decode cX8_isEndOf 5 = .ok (.istore_n 3, 1) := by decide +kernel
theorem d_8_isEndOf_6 : decode cX8_isEndOf 6 = .ok (.aload_n 2, 1) := by decide +kernel
theorem d_8_isEndOf_7 : decode cX8_isEndOf 7 = .ok (.invokevirtual 40, 3) := by decide +kernel
theorem d_8_isEndOf_10 : decode cX8_isEndOf 10 = .ok (.iload_n 3, 1) := by decide +kernel
theorem d_8_isEndOf_11 : decode cX8_isEndOf 11 = .ok (.isub, 1) := by decide +kernel
theorem d_8_isEndOf_12 : decode cX8_isEndOf 12 = .ok (.istore 4, 2) := by decide +kernel
theorem d_8_isEndOf_14 : decode cX8_isEndOf 14 = .ok (.iload 4, 2) := by decide +kernel
theorem d_8_isEndOf_16 : decode cX8_isEndOf 16 = .ok (.ifCond .ge 5, 3) := by decide +kernel
theorem d_8_isEndOf_19 : decode cX8_isEndOf 19 = .ok (.iconst 0, 1) := by decide +kernel
theorem d_8_isEndOf_20 : decode cX8_isEndOf 20 = .ok (.ireturn, 1) := by decide +kernel
theorem d_8_isEndOf_21 : decode cX8_isEndOf 21 = .ok (.iconst 0, 1) := by decide +kernel
theorem d_8_isEndOf_22 : decode cX8_isEndOf 22 = .ok (.istore 5, 2) := by decide +kernel
theorem d_8_isEndOf_24 : decode cX8_isEndOf 24 = .ok (.iload 5, 2) := by decide +kernel
theorem d_8_isEndOf_26 : decode cX8_isEndOf 26 = .ok (.iload_n 3, 1) := by decide +kernel
theorem d_8_isEndOf_27 : decode cX8_isEndOf 27 = .ok (.if_icmp .ge 30, 3) := by decide +kernel
theorem d_8_isEndOf_30 : decode cX8_isEndOf 30 = .ok (.aload_n 0, 1) := by decide +kernel
theorem d_8_isEndOf_31 : decode cX8_isEndOf 31 = .ok (.iload_n 1, 1) := by decide +kernel
theorem d_8_isEndOf_32 : decode cX8_isEndOf 32 = .ok (.iload 5, 2) := by decide +kernel
theorem d_8_isEndOf_34 : decode cX8_isEndOf 34 = .ok (.invokevirtual 67, 3) := by decide +kernel
theorem d_8_isEndOf_37 : decode cX8_isEndOf 37 = .ok (.aload_n 2, 1) := by decide +kernel
theorem d_8_isEndOf_38 : decode cX8_isEndOf 38 = .ok (.iload 4, 2) := by decide +kernel
theorem d_8_isEndOf_40 : decode cX8_isEndOf 40 = .ok (.iload 5, 2) := by decide +kernel
theorem d_8_isEndOf_42 : decode cX8_isEndOf 42 = .ok (.iadd, 1) := by decide +kernel
theorem d_8_isEndOf_43 : decode cX8_isEndOf 43 = .ok (.invokevirtual 49, 3) := by decide +kernel
theorem d_8_isEndOf_46 : decode cX8_isEndOf 46 = .ok (.if_icmp .eq 5, 3) := by decide +kernel
theorem d_8_isEndOf_49 : decode cX8_isEndOf 49 = .ok (.iconst 0, 1) := by decide +kernel
theorem d_8_isEndOf_50 : decode cX8_isEndOf 50 = .ok (.ireturn, 1) := by decide +kernel
theorem d_8_isEndOf_51 : decode cX8_isEndOf 51 = .ok (.iinc 5 1, 3) := by decide +kernel
theorem d_8_isEndOf_54 : decode cX8_isEndOf 54 = .ok (.goto (-30), 3) := by decide +kernel
theorem d_8_isEndOf_57 : decode cX8_isEndOf 57 = .ok (.iconst 1, 1) := by decide +kernel
theorem d_8_isEndOf_58 : decode cX8_isEndOf 58 = .ok (.ireturn, 1) := by decide +kernel
theorem d_8_find_0 : decode cX8_find 0 = .ok (.iconst 0, 1) := by decide +kernel
theorem d_8_find_1 : decode cX8_find 1 = .ok (.istore_n 2, 1) := by decide +kernel
theorem d_8_find_2 : decode cX8_find 2 = .ok (.iload_n 2, 1) := by decide +kernel
theorem d_8_find_3 : decode cX8_find 3 = .ok (.aload_n 0, 1) := by decide +kernel
theorem d_8_find_4 : decode cX8_find 4 = .ok (.getfield 29, 3) := by decide +kernel
theorem d_8_find_7 : decode cX8_find 7 = .ok (.if_icmp .ge 20, 3) := by decide +kernel
theorem d_8_find_10 : decode cX8_find 10 = .ok (.aload_n 0, 1) := by decide +kernel
theorem d_8_find_11 : decode cX8_find 11 = .ok (.iload_n 2, 1) := by decide +kernel
theorem d_8_find_12 : decode cX8_find 12 = .ok (.aload_n 1, 1) := by decide +kernel
theorem d_8_find_13 : decode cX8_find 13 = .ok (.invokevirtual 79, 3) := by decide +kernel
theorem d_8_find_16 : decode cX8_find 16 = .ok (.ifCond .eq 5, 3) := by decide +kernel
theorem d_8_find_19 : decode cX8_find 19 = .ok (.iload_n 2, 1) := by decide +kernel
theorem d_8_find_20 : decode cX8_find 20 = .ok (.ireturn, 1) := by decide +kernel
theorem d_8_find_21 : decode cX8_find 21 = .ok (.iinc 2 1, 3) := by decide +kernel
theorem d_8_find_24 : decode cX8_find 24 = .ok (.goto (-22), 3) := by decide +kernel
theorem d_8_find_27 : decode cX8_find 27 = .ok (.iconst (-1), 1) := by decide +kernel
theorem d_8_find_28 : decode cX8_find 28 = .ok (.ireturn, 1) := by decide +kernel
theorem d_8_countOf_0 : decode cX8_countOf 0 = .ok (.iconst 0, 1) := by decide +kernel
theorem d_8_countOf_1 : decode cX8_countOf 1 = .ok (.istore_n 2, 1) := by decide +kernel
theorem d_8_countOf_2 : decode cX8_countOf 2 = .ok (.iconst 0, 1) := by decide +kernel
theorem d_8_countOf_3 : decode cX8_countOf 3 = .ok (.istore_n 3, 1) := by decide +kernel
theorem d_8_countOf_4 : decode cX8_countOf 4 = .ok (.iload_n 3, 1) := by decide +kernel
theorem d_8_countOf_5 : decode cX8_countOf 5 = .ok (.aload_n 0, 1) := by decide +kernel
theorem d_8_countOf_6 : decode cX8_countOf 6 = .ok (.getfield 29, 3) := by decide +kernel
theorem d_8_countOf_9 : decode cX8_countOf 9 = .ok (.if_icmp .ge 21, 3) := by decide +kernel
theorem d_8_countOf_12 : decode cX8_countOf 12 = .ok (.aload_n 0, 1) := by decide +kernel
theorem d_8_countOf_13 : decode cX8_countOf 13 = .ok (.iload_n 3, 1) := by decide +kernel
theorem d_8_countOf_14 : decode cX8_countOf 14 = .ok (.aload_n 1, 1) := by decide +kernel
theorem d_8_countOf_15 : decode cX8_countOf 15 = .ok (.invokevirtual 79, 3) := by decide +kernel
theorem d_8_countOf_18 : decode cX8_countOf 18 = .ok (.ifCond .eq 6, 3) := by decide +kernel
theorem d_8_countOf_21 : decode cX8_countOf 21 = .ok (.iinc 2 1, 3) := by decide +kernel
theorem d_8_countOf_24 : decode cX8_countOf 24 = .ok (.iinc 3 1, 3) := by decide +kernel
theorem d_8_countOf_27 : decode cX8_countOf 27 = .ok (.goto (-23), 3) := by decide +kernel
theorem d_8_countOf_30 : decode cX8_countOf 30 = .ok (.iload_n 2, 1) := by decide +kernel
theorem d_8_countOf_31 : decode cX8_countOf 31 = .ok (.ireturn, 1) := by decide +kernel
theorem d_8_copyFrom_0 : decode cX8_copyFrom 0 = .ok (.aload_n 1, 1) := by decide +kernel
theorem d_8_copyFrom_1 : decode cX8_copyFrom 1 = .ok (.getfield 21, 3) := by decide +kernel
theorem d_8_copyFrom_4 : decode cX8_copyFrom 4 = .ok (.iconst 0, 1) := by decide +kernel
theorem d_8_copyFrom_5 : decode cX8_copyFrom 5 = .ok (.aload_n 0, 1) := by decide +kernel
theorem d_8_copyFrom_6 : decode cX8_copyFrom 6 = .ok (.getfield 21, 3) := by decide +kernel
theorem d_8_copyFrom_9 : decode cX8_copyFrom 9 = .ok (.iconst 0, 1) := by decide +kernel
theorem d_8_copyFrom_10 : decode cX8_copyFrom 10 = .ok (.aload_n 1, 1) := by decide +kernel
theorem d_8_copyFrom_11 : decode cX8_copyFrom 11 = .ok (.getfield 21, 3) := by decide +kernel
theorem d_8_copyFrom_14 : decode cX8_copyFrom 14 = .ok (.arraylength, 1) := by decide +kernel
theorem d_8_copyFrom_15 : decode cX8_copyFrom 15 = .ok (.aload_n 0, 1) := by decide +kernel
theorem d_8_copyFrom_16 : decode cX8_copyFrom 16 = .ok (.getfield 21, 3) := by decide +kernel
theorem d_8_copyFrom_19 : decode cX8_copyFrom 19 = .ok (.arraylength, 1) := by decide +kernel
theorem d_8_copyFrom_20 : decode cX8_copyFrom 20 = .ok (.invokestatic 46, 3) := by decide +kernel
theorem d_8_copyFrom_23 : decode cX8_copyFrom 23 = .ok (.invokestatic 82, 3) := by decide +kernel
theorem d_8_copyFrom_26 : decode cX8_copyFrom 26 = .ok (.aload_n 1, 1) := by decide +kernel
theorem d_8_copyFrom_27 : decode cX8_copyFrom 27 = .ok (.getfield 25, 3) := by decide +kernel
theorem d_8_copyFrom_30 : decode cX8_copyFrom 30 = .ok (.aload_n 0, 1) := by decide +kernel
theorem d_8_copyFrom_31 : decode cX8_copyFrom 31 = .ok (.getfield 25, 3) := by decide +kernel
theorem d_8_copyFrom_34 : decode cX8_copyFrom 34 = .ok (.invokestatic 88, 3) := by decide +kernel
theorem d_8_copyFrom_37 : decode cX8_copyFrom 37 = .ok (.aload_n 0, 1) := by decide +kernel
theorem d_8_copyFrom_38 : decode cX8_copyFrom 38 = .ok (.aload_n 1, 1) := by decide +kernel
theorem d_8_copyFrom_39 : decode cX8_copyFrom 39 = .ok (.getfield 29, 3) := by decide +kernel
theorem d_8_copyFrom_42 : decode cX8_copyFrom 42 = .ok (.putfield 29, 3) := by decide +kernel
theorem d_8_copyFrom_45 : decode cX8_copyFrom 45 = .ok (.return_, 1) := by decide +kernel
theorem d_9_init_0 : decode cX9_init 0 = .ok (.aload_n 0, 1) := by decide +kernel
theorem d_9_init_1 : decode cX9_init 1 = .ok (.invokespecial 1, 3) := by decide +kernel
theorem d_9_init_4 : decode cX9_init 4 = .ok (.aload_n 0, 1) := by decide +kernel
theorem d_9_init_5 : decode cX9_init 5 = .ok (.new 7, 3) := by decide +kernel
theorem d_9_init_8 : decode cX9_init 8 = .ok (.dup, 1) := by decide +kernel
theorem d_9_init_9 : decode cX9_init 9 = .ok (.invokespecial 9, 3) := by decide +kernel
theorem d_9_init_12 : decode cX9_init 12 = .ok (.putfield 10, 3) := by decide +kernel
theorem d_9_init_15 : decode cX9_init 15 = .ok (.aload_n 0, 1) := by decide +kernel
theorem d_9_init_16 : decode cX9_init 16 = .ok (.new 16, 3) := by decide +kernel
theorem d_9_init_19 : decode cX9_init 19 = .ok (.dup, 1) := by decide +kernel
theorem d_9_init_20 : decode cX9_init 20 = .ok (.invokespecial 18, 3) := by decide +kernel
theorem d_9_init_23 : decode cX9_init 23 = .ok (.putfield 19, 3) := by decide +kernel
theorem d_9_init_26 : decode cX9_init 26 = .ok (.aload_n 0, 1) := by decide +kernel
theorem d_9_init_27 : decode cX9_init 27 = .ok (.new 16, 3) := by decide +kernel
theorem d_9_init_30 : decode cX9_init 30 = .ok (.dup, 1) := by decide +kernel
theorem d_9_init_31 : decode cX9_init 31 = .ok (.invokespecial 18, 3) := by decide +kernel
theorem d_9_init_34 : decode cX9_init 34 = .ok (.putfield 23, 3) := by decide +kernel
theorem d_9_init_37 : decode cX9_init 37 = .ok (.aload_n 0, 1) := by decide +kernel
theorem d_9_init_38 : decode cX9_init 38 = .ok (.new 26, 3) := by decide +kernel
theorem d_9_init_41 : decode cX9_init 41 = .ok (.dup, 1) := by decide +kernel
theorem d_9_init_42 : decode cX9_init 42 = .ok (.invokespecial 28, 3) := by decide +kernel
theorem d_9_init_45 : decode cX9_init 45 = .ok (.putfield 29, 3) := by decide +kernel
theorem d_9_init_48 : decode cX9_init 48 = .ok (.aload_n 0, 1) := by decide +kernel
theorem d_9_init_49 : decode cX9_init 49 = .ok (.new 16, 3) := by decide +kernel
theorem d_9_init_52 : decode cX9_init 52 = .ok (.dup, 1) := by decide +kernel
theorem d_9_init_53 : decode cX9_init 53 = .ok (.invokespecial 18, 3) := by decide +kernel
theorem d_9_init_56 : decode cX9_init 56 = .ok (.putfield 33, 3) := by decide +kernel
theorem d_9_init_59 : decode cX9_init 59 = .ok (.aload_n 0, 1) := by decide +kernel
theorem d_9_init_60 : decode cX9_init 60 = .ok (.new 36, 3) := by decide +kernel
theorem d_9_init_63 : decode cX9_init 63 = .ok (.dup, 1) := by decide +kernel
theorem d_9_init_64 : decode cX9_init 64 = .ok (.invokespecial 38, 3) := by decide +kernel
theorem d_9_init_67 : decode cX9_init 67 = .ok (.putfield 39, 3) := by decide +kernel
theorem d_9_init_70 : decode cX9_init 70 = .ok (.aload_n 0, 1) := by decide +kernel
theorem d_9_init_71 : decode cX9_init 71 = .ok (.new 43, 3) := by decide +kernel
theorem d_9_init_74 : decode cX9_init 74 = .ok (.dup, 1) := by decide +kernel
theorem d_9_init_75 : decode cX9_init 75 = .ok (.invokespecial 45, 3) := by decide +kernel
theorem d_9_init_78 : decode cX9_init 78 = .ok (.putfield 46, 3) := by decide +kernel
theorem d_9_init_81 : decode cX9_init 81 = .ok (.aload_n 0, 1) := by decide +kernel
theorem d_9_init_82 : decode cX9_init 82 = .ok (.new 43, 3) := by decide +kernel
theorem d_9_init_85 : decode cX9_init 85 = .ok (.dup, 1) := by decide +kernel
theorem d_9_init_86 : decode cX9_init 86 = .ok (.invokespecial 45, 3) := by decide +kernel
theorem d_9_init_89 : decode cX9_init 89 = .ok (.putfield 50, 3) := by decide +kernel
theorem d_9_init_92 : decode cX9_init 92 = .ok (.aload_n 0, 1) := by decide +kernel
theorem d_9_init_93 : decode cX9_init 93 = .ok (.new 43, 3) := by decide +kernel
theorem d_9_init_96 : decode cX9_init 96 = .ok (.dup, 1) := by decide +kernel
theorem d_9_init_97 : decode cX9_init 97 = .ok (.invokespecial 45, 3) := by decide +kernel
theorem d_9_init_100 : decode cX9_init 100 = .ok (.putfield 53, 3) := by decide +kernel
theorem d_9_init_103 : decode cX9_init 103 = .ok (.aload_n 0, 1) := by decide +kernel
theorem d_9_init_104 : decode cX9_init 104 = .ok (.new 56, 3) := by decide +kernel
theorem d_9_init_107 : decode cX9_init 107 = .ok (.dup, 1) := by decide +kernel
theorem d_9_init_108 : decode cX9_init 108 = .ok (.bipush 20, 2) := by decide +kernel
theorem d_9_init_110 : decode cX9_init 110 = .ok (.bipush 16, 2) := by decide +kernel
theorem d_9_init_112 : decode cX9_init 112 = .ok (.invokespecial 58, 3) := by decide +kernel
theorem d_9_init_115 : decode cX9_init 115 = .ok (.putfield 61, 3) := by decide +kernel
theorem d_9_init_118 : decode cX9_init 118 = .ok (.aload_n 0, 1) := by decide +kernel
theorem d_9_init_119 : decode cX9_init 119 = .ok (.new 56, 3) := by decide +kernel
theorem d_9_init_122 : decode cX9_init 122 = .ok (.dup, 1) := by decide +kernel
theorem d_9_init_123 : decode cX9_init 123 = .ok (.bipush 22, 2) := by decide +kernel
theorem d_9_init_125 : decode cX9_init 125 = .ok (.bipush 12, 2) := by decide +kernel
theorem d_9_init_127 : decode cX9_init 127 = .ok (.invokespecial 58, 3) := by decide +kernel
theorem d_9_init_130 : decode cX9_init 130 = .ok (.putfield 65, 3) := by decide +kernel
theorem d_9_init_133 : decode cX9_init 133 = .ok (.aload_n 0, 1) := by decide +kernel
theorem d_9_init_134 : decode cX9_init 134 = .ok (.getfield 19, 3) := by decide +kernel
theorem d_9_init_137 : decode cX9_init 137 = .ok (.invokevirtual 68, 3) := by decide +kernel
theorem d_9_init_140 : decode cX9_init 140 = .ok (.return_, 1) := by decide +kernel
theorem d_9_strike_0 : decode cX9_strike 0 = .ok (.aload_n 0, 1) := by decide +kernel
theorem d_9_strike_1 : decode cX9_strike 1 = .ok (.iload_n 1, 1) := by decide +kernel
theorem d_9_strike_2 : decode cX9_strike 2 = .ok (.invokevirtual 71, 3) := by decide +kernel
theorem d_9_strike_5 : decode cX9_strike 5 = .ok (.iload_n 2, 1) := by decide +kernel
theorem d_9_strike_6 : decode cX9_strike 6 = .ok (.invokestatic 75, 3) := by decide +kernel
theorem d_9_strike_9 : decode cX9_strike 9 = .ok (.aload_n 0, 1) := by decide +kernel
theorem d_9_strike_10 : decode cX9_strike 10 = .ok (.getfield 19, 3) := by decide +kernel
theorem d_9_strike_13 : decode cX9_strike 13 = .ok (.iload_n 1, 1) := by decide +kernel
theorem d_9_strike_14 : decode cX9_strike 14 = .ok (.aload_n 0, 1) := by decide +kernel
theorem d_9_strike_15 : decode cX9_strike 15 = .ok (.getfield 50, 3) := by decide +kernel
theorem d_9_strike_18 : decode cX9_strike 18 = .ok (.invokevirtual 78, 3) := by decide +kernel
theorem d_9_strike_21 : decode cX9_strike 21 = .ok (.aload_n 0, 1) := by decide +kernel
theorem d_9_strike_22 : decode cX9_strike 22 = .ok (.getfield 19, 3) := by decide +kernel
theorem d_9_strike_25 : decode cX9_strike 25 = .ok (.getfield 82, 3) := by decide +kernel
theorem d_9_strike_28 : decode cX9_strike 28 = .ok (.iload_n 1, 1) := by decide +kernel
theorem d_9_strike_29 : decode cX9_strike 29 = .ok (.aload_n 0, 1) := by decide +kernel
theorem d_9_strike_30 : decode cX9_strike 30 = .ok (.getfield 50, 3) := by decide +kernel
theorem d_9_strike_33 : decode cX9_strike 33 = .ok (.invokevirtual 86, 3) := by decide +kernel
theorem d_9_strike_36 : decode cX9_strike 36 = .ok (.istore_n 3, 1) := by decide +kernel
theorem d_9_strike_37 : decode cX9_strike 37 = .ok (.iload_n 3, 1) := by decide +kernel
theorem d_9_strike_38 : decode cX9_strike 38 = .ok (.iconst (-1), 1) := by decide +kernel
theorem d_9_strike_39 : decode cX9_strike 39 = .ok (.if_icmp .ne 26, 3) := by decide +kernel
theorem d_9_strike_42 : decode cX9_strike 42 = .ok (.aload_n 0, 1) := by decide +kernel
theorem d_9_strike_43 : decode cX9_strike 43 = .ok (.getfield 19, 3) := by decide +kernel
theorem d_9_strike_46 : decode cX9_strike 46 = .ok (.getfield 82, 3) := by decide +kernel
theorem d_9_strike_49 : decode cX9_strike 49 = .ok (.invokevirtual 92, 3) := by decide +kernel
theorem d_9_strike_52 : decode cX9_strike 52 = .ok (.ifCond .eq 13, 3) := by decide +kernel
theorem d_9_strike_55 : decode cX9_strike 55 = .ok (.new 96, 3) := by decide +kernel
theorem d_9_strike_58 : decode cX9_strike 58 = .ok (.dup, 1) := by decide +kernel
theorem d_9_strike_59 : decode cX9_strike 59 = .ok (.ldc 98, 2) := by decide +kernel
theorem d_9_strike_61 : decode cX9_strike 61 = .ok (.invokespecial 100, 3) := by decide +kernel
theorem d_9_strike_64 : decode cX9_strike 64 = .ok (.athrow, 1) := by decide +kernel
theorem d_9_strike_65 : decode cX9_strike 65 = .ok (.aload_n 0, 1) := by decide +kernel
theorem d_9_strike_66 : decode cX9_strike 66 = .ok (.getfield 29, 3) := by decide +kernel
theorem d_9_strike_69 : decode cX9_strike 69 = .ok (.aload_n 0, 1) := by decide +kernel
theorem d_9_strike_70 : decode cX9_strike 70 = .ok (.getfield 19, 3) := by decide +kernel
theorem d_9_strike_73 : decode cX9_strike 73 = .ok (.invokevirtual 103, 3) := by decide +kernel
theorem d_9_strike_76 : decode cX9_strike 76 = .ok (.iload_n 3, 1) := by decide +kernel
theorem d_9_strike_77 : decode cX9_strike 77 = .ok (.iconst (-1), 1) := by decide +kernel
theorem d_9_strike_78 : decode cX9_strike 78 = .ok (.if_icmp .ne 22, 3) := by decide +kernel
theorem d_9_strike_81 : decode cX9_strike 81 = .ok (.aload_n 0, 1) := by decide +kernel
theorem d_9_strike_82 : decode cX9_strike 82 = .ok (.getfield 19, 3) := by decide +kernel
theorem d_9_strike_85 : decode cX9_strike 85 = .ok (.getfield 82, 3) := by decide +kernel
theorem d_9_strike_88 : decode cX9_strike 88 = .ok (.iload_n 1, 1) := by decide +kernel
theorem d_9_strike_89 : decode cX9_strike 89 = .ok (.aload_n 0, 1) := by decide +kernel
theorem d_9_strike_90 : decode cX9_strike 90 = .ok (.getfield 50, 3) := by decide +kernel
theorem d_9_strike_93 : decode cX9_strike 93 = .ok (.iload_n 2, 1) := by decide +kernel
theorem d_9_strike_94 : decode cX9_strike 94 = .ok (.invokevirtual 107, 3) := by decide +kernel
theorem d_9_strike_97 : decode cX9_strike 97 = .ok (.goto 15, 3) := by decide +kernel
theorem d_9_strike_100 : decode cX9_strike 100 = .ok (.aload_n 0, 1) := by decide +kernel
theorem d_9_strike_101 : decode cX9_strike 101 = .ok (.getfield 19, 3) := by decide +kernel
theorem d_9_strike_104 : decode cX9_strike 104 = .ok (.getfield 82, 3) := by decide +kernel
theorem d_9_strike_107 : decode cX9_strike 107 = .ok (.iload_n 3, 1) := by decide +kernel
theorem d_9_strike_108 : decode cX9_strike 108 = .ok (.iload_n 2, 1) := by decide +kernel
theorem d_9_strike_109 : decode cX9_strike 109 = .ok (.invokevirtual 111, 3) := by decide +kernel
theorem d_9_strike_112 : decode cX9_strike 112 = .ok (.aload_n 0, 1) := by decide +kernel
theorem d_9_strike_113 : decode cX9_strike 113 = .ok (.getfield 19, 3) := by decide +kernel
theorem d_9_strike_116 : decode cX9_strike 116 = .ok (.dup, 1) := by decide +kernel
theorem d_9_strike_117 : decode cX9_strike 117 = .ok (.getfield 114, 3) := by decide +kernel
theorem d_9_strike_120 : decode cX9_strike 120 = .ok (.iload_n 2, 1) := by decide +kernel
theorem d_9_strike_121 : decode cX9_strike 121 = .ok (.iadd, 1) := by decide +kernel
theorem d_9_strike_122 : decode cX9_strike 122 = .ok (.putfield 114, 3) := by decide +kernel
theorem d_9_strike_125 : decode cX9_strike 125 = .ok (.aload_n 0, 1) := by decide +kernel
theorem d_9_strike_126 : decode cX9_strike 126 = .ok (.getfield 19, 3) := by decide +kernel
theorem d_9_strike_129 : decode cX9_strike 129 = .ok (.getfield 82, 3) := by decide +kernel
theorem d_9_strike_132 : decode cX9_strike 132 = .ok (.iload_n 1, 1) := by decide +kernel
theorem d_9_strike_133 : decode cX9_strike 133 = .ok (.invokevirtual 118, 3) := by decide +kernel
theorem d_9_strike_136 : decode cX9_strike 136 = .ok (.ireturn, 1) := by decide +kernel
theorem d_9_melt_0 : decode cX9_melt 0 = .ok (.aload_n 0, 1) := by decide +kernel
theorem d_9_melt_1 : decode cX9_melt 1 = .ok (.iload_n 1, 1) := by decide +kernel
theorem d_9_melt_2 : decode cX9_melt 2 = .ok (.invokevirtual 71, 3) := by decide +kernel
theorem d_9_melt_5 : decode cX9_melt 5 = .ok (.iload_n 2, 1) := by decide +kernel
theorem d_9_melt_6 : decode cX9_melt 6 = .ok (.invokestatic 75, 3) := by decide +kernel
theorem d_9_melt_9 : decode cX9_melt 9 = .ok (.aload_n 0, 1) := by decide +kernel
theorem d_9_melt_10 : decode cX9_melt 10 = .ok (.getfield 19, 3) := by decide +kernel
theorem d_9_melt_13 : decode cX9_melt 13 = .ok (.getfield 82, 3) := by decide +kernel
theorem d_9_melt_16 : decode cX9_melt 16 = .ok (.iload_n 1, 1) := by decide +kernel
theorem d_9_melt_17 : decode cX9_melt 17 = .ok (.invokevirtual 118, 3) := by decide +kernel
theorem d_9_melt_20 : decode cX9_melt 20 = .ok (.iload_n 2, 1) := by decide +kernel
theorem d_9_melt_21 : decode cX9_melt 21 = .ok (.if_icmp .ge 13, 3) := by decide +kernel
theorem d_9_melt_24 : decode cX9_melt 24 = .ok (.new 96, 3) := by decide +kernel
theorem d_9_melt_27 : decode cX9_melt 27 = .ok (.dup, 1) := by decide +kernel
theorem d_9_melt_28 : decode cX9_melt 28 = .ok (.ldc 122, 2) := by decide +kernel
theorem d_9_melt_30 : decode cX9_melt 30 = .ok (.invokespecial 100, 3) := by decide +kernel
theorem d_9_melt_33 : decode cX9_melt 33 = .ok (.athrow, 1) := by decide +kernel
theorem d_9_melt_34 : decode cX9_melt 34 = .ok (.aload_n 0, 1) := by decide +kernel
theorem d_9_melt_35 : decode cX9_melt 35 = .ok (.getfield 29, 3) := by decide +kernel
theorem d_9_melt_38 : decode cX9_melt 38 = .ok (.aload_n 0, 1) := by decide +kernel
theorem d_9_melt_39 : decode cX9_melt 39 = .ok (.getfield 19, 3) := by decide +kernel
theorem d_9_melt_42 : decode cX9_melt 42 = .ok (.invokevirtual 103, 3) := by decide +kernel
theorem d_9_melt_45 : decode cX9_melt 45 = .ok (.aload_n 0, 1) := by decide +kernel
theorem d_9_melt_46 : decode cX9_melt 46 = .ok (.getfield 19, 3) := by decide +kernel
theorem d_9_melt_49 : decode cX9_melt 49 = .ok (.getfield 82, 3) := by decide +kernel
theorem d_9_melt_52 : decode cX9_melt 52 = .ok (.iload_n 1, 1) := by decide +kernel
theorem d_9_melt_53 : decode cX9_melt 53 = .ok (.iload_n 2, 1) := by decide +kernel
theorem d_9_melt_54 : decode cX9_melt 54 = .ok (.invokevirtual 124, 3) := by decide +kernel
theorem d_9_melt_57 : decode cX9_melt 57 = .ok (.aload_n 0, 1) := by decide +kernel
theorem d_9_melt_58 : decode cX9_melt 58 = .ok (.getfield 19, 3) := by decide +kernel
theorem d_9_melt_61 : decode cX9_melt 61 = .ok (.dup, 1) := by decide +kernel
theorem d_9_melt_62 : decode cX9_melt 62 = .ok (.getfield 127, 3) := by decide +kernel
theorem d_9_melt_65 : decode cX9_melt 65 = .ok (.iload_n 2, 1) := by decide +kernel
theorem d_9_melt_66 : decode cX9_melt 66 = .ok (.iadd, 1) := by decide +kernel
theorem d_9_melt_67 : decode cX9_melt 67 = .ok (.putfield 127, 3) := by decide +kernel
theorem d_9_melt_70 : decode cX9_melt 70 = .ok (.aload_n 0, 1) := by decide +kernel
theorem d_9_melt_71 : decode cX9_melt 71 = .ok (.getfield 19, 3) := by decide +kernel
theorem d_9_melt_74 : decode cX9_melt 74 = .ok (.getfield 82, 3) := by decide +kernel
theorem d_9_melt_77 : decode cX9_melt 77 = .ok (.iload_n 1, 1) := by decide +kernel
theorem d_9_melt_78 : decode cX9_melt 78 = .ok (.invokevirtual 118, 3) := by decide +kernel
theorem d_9_melt_81 : decode cX9_melt 81 = .ok (.ireturn, 1) := by decide +kernel
theorem d_9_meltStale_0 : decode cX9_meltStale 0 = .ok (.aload_n 0, 1) := by decide +kernel
theorem d_9_meltStale_1 : decode cX9_meltStale 1 = .ok (.getfield 29, 3) := by decide +kernel
theorem d_9_meltStale_4 : decode cX9_meltStale 4 = .ok (.aload_n 0, 1) := by decide +kernel
theorem d_9_meltStale_5 : decode cX9_meltStale 5 = .ok (.getfield 19, 3) := by decide +kernel
theorem d_9_meltStale_8 : decode cX9_meltStale 8 = .ok (.invokevirtual 103, 3) := by decide +kernel
theorem d_9_meltStale_11 : decode cX9_meltStale 11 = .ok (.iconst 0, 1) := by decide +kernel
theorem d_9_meltStale_12 : decode cX9_meltStale 12 = .ok (.istore_n 1, 1) := by decide +kernel
theorem d_9_meltStale_13 : decode cX9_meltStale 13 = .ok (.iconst 0, 1) := by decide +kernel
theorem d_9_meltStale_14 : decode cX9_meltStale 14 = .ok (.istore_n 2, 1) := by decide +kernel
theorem d_9_meltStale_15 : decode cX9_meltStale 15 = .ok (.iload_n 2, 1) := by decide +kernel
theorem d_9_meltStale_16 : decode cX9_meltStale 16 = .ok (.aload_n 0, 1) := by decide +kernel
theorem d_9_meltStale_17 : decode cX9_meltStale 17 = .ok (.getfield 19, 3) := by decide +kernel
theorem d_9_meltStale_20 : decode cX9_meltStale 20 = .ok (.getfield 82, 3) := by decide +kernel
theorem d_9_meltStale_23 : decode cX9_meltStale 23 = .ok (.invokevirtual 130, 3) := by decide +kernel
theorem d_9_meltStale_26 : decode cX9_meltStale 26 = .ok (.if_icmp .ge 49, 3) := by decide +kernel
theorem d_9_meltStale_29 : decode cX9_meltStale 29 = .ok (.aload_n 0, 1) := by decide +kernel
theorem d_9_meltStale_30 : decode cX9_meltStale 30 = .ok (.getfield 19, 3) := by decide +kernel
theorem d_9_meltStale_33 : decode cX9_meltStale 33 = .ok (.iload_n 2, 1) := by decide +kernel
theorem d_9_meltStale_34 : decode cX9_meltStale 34 = .ok (.aload_n 0, 1) := by decide +kernel
theorem d_9_meltStale_35 : decode cX9_meltStale 35 = .ok (.getfield 50, 3) := by decide +kernel
theorem d_9_meltStale_38 : decode cX9_meltStale 38 = .ok (.invokevirtual 134, 3) := by decide +kernel
theorem d_9_meltStale_41 : decode cX9_meltStale 41 = .ok (.ifCond .eq 28, 3) := by decide +kernel
theorem d_9_meltStale_44 : decode cX9_meltStale 44 = .ok (.iload_n 1, 1) := by decide +kernel
theorem d_9_meltStale_45 : decode cX9_meltStale 45 = .ok (.aload_n 0, 1) := by decide +kernel
theorem d_9_meltStale_46 : decode cX9_meltStale 46 = .ok (.getfield 19, 3) := by decide +kernel
theorem d_9_meltStale_49 : decode cX9_meltStale 49 = .ok (.getfield 82, 3) := by decide +kernel
theorem d_9_meltStale_52 : decode cX9_meltStale 52 = .ok (.iload_n 2, 1) := by decide +kernel
theorem d_9_meltStale_53 : decode cX9_meltStale 53 = .ok (.invokevirtual 138, 3) := by decide +kernel
theorem d_9_meltStale_56 : decode cX9_meltStale 56 = .ok (.iadd, 1) := by decide +kernel
theorem d_9_meltStale_57 : decode cX9_meltStale 57 = .ok (.istore_n 1, 1) := by decide +kernel
theorem d_9_meltStale_58 : decode cX9_meltStale 58 = .ok (.aload_n 0, 1) := by decide +kernel
theorem d_9_meltStale_59 : decode cX9_meltStale 59 = .ok (.getfield 19, 3) := by decide +kernel
theorem d_9_meltStale_62 : decode cX9_meltStale 62 = .ok (.getfield 82, 3) := by decide +kernel
theorem d_9_meltStale_65 : decode cX9_meltStale 65 = .ok (.iload_n 2, 1) := by decide +kernel
theorem d_9_meltStale_66 : decode cX9_meltStale 66 = .ok (.invokevirtual 141, 3) := by decide +kernel
theorem d_9_meltStale_69 : decode cX9_meltStale 69 = .ok (.iinc 2 1, 3) := by decide +kernel
theorem d_9_meltStale_72 : decode cX9_meltStale 72 = .ok (.goto (-57), 3) := by decide +kernel
theorem d_9_meltStale_75 : decode cX9_meltStale 75 = .ok (.aload_n 0, 1) := by decide +kernel
theorem d_9_meltStale_76 : decode cX9_meltStale 76 = .ok (.getfield 19, 3) := by decide +kernel
theorem d_9_meltStale_79 : decode cX9_meltStale 79 = .ok (.getfield 82, 3) := by decide +kernel
theorem d_9_meltStale_82 : decode cX9_meltStale 82 = .ok (.invokevirtual 144, 3) := by decide +kernel
theorem d_9_meltStale_85 : decode cX9_meltStale 85 = .ok (.aload_n 0, 1) := by decide +kernel
theorem d_9_meltStale_86 : decode cX9_meltStale 86 = .ok (.getfield 19, 3) := by decide +kernel
theorem d_9_meltStale_89 : decode cX9_meltStale 89 = .ok (.dup, 1) := by decide +kernel
theorem d_9_meltStale_90 : decode cX9_meltStale 90 = .ok (.getfield 127, 3) := by decide +kernel
theorem d_9_meltStale_93 : decode cX9_meltStale 93 = .ok (.iload_n 1, 1) := by decide +kernel
theorem d_9_meltStale_94 : decode cX9_meltStale 94 = .ok (.iadd, 1) := by decide +kernel
theorem d_9_meltStale_95 : decode cX9_meltStale 95 = .ok (.putfield 127, 3) := by decide +kernel
theorem d_9_meltStale_98 : decode cX9_meltStale 98 = .ok (.iload_n 1, 1) := by decide +kernel
theorem d_9_meltStale_99 : decode cX9_meltStale 99 = .ok (.ireturn, 1) := by decide +kernel
theorem d_9_dropDie_0 : decode cX9_dropDie 0 = .ok (.aload_n 0, 1) := by decide +kernel
theorem d_9_dropDie_1 : decode cX9_dropDie 1 = .ok (.iload_n 1, 1) := by decide +kernel
theorem d_9_dropDie_2 : decode cX9_dropDie 2 = .ok (.invokevirtual 147, 3) := by decide +kernel
theorem d_9_dropDie_5 : decode cX9_dropDie 5 = .ok (.iload_n 1, 1) := by decide +kernel
theorem d_9_dropDie_6 : decode cX9_dropDie 6 = .ok (.ifCond .ne 13, 3) := by decide +kernel
theorem d_9_dropDie_9 : decode cX9_dropDie 9 = .ok (.new 96, 3) := by decide +kernel
theorem d_9_dropDie_12 : decode cX9_dropDie 12 = .ok (.dup, 1) := by decide +kernel
theorem d_9_dropDie_13 : decode cX9_dropDie 13 = .ok (.ldc 150, 2) := by decide +kernel
theorem d_9_dropDie_15 : decode cX9_dropDie 15 = .ok (.invokespecial 100, 3) := by decide +kernel
theorem d_9_dropDie_18 : decode cX9_dropDie 18 = .ok (.athrow, 1) := by decide +kernel
theorem d_9_dropDie_19 : decode cX9_dropDie 19 = .ok (.aload_n 0, 1) := by decide +kernel
theorem d_9_dropDie_20 : decode cX9_dropDie 20 = .ok (.getfield 29, 3) := by decide +kernel
theorem d_9_dropDie_23 : decode cX9_dropDie 23 = .ok (.aload_n 0, 1) := by decide +kernel
theorem d_9_dropDie_24 : decode cX9_dropDie 24 = .ok (.getfield 19, 3) := by decide +kernel
theorem d_9_dropDie_27 : decode cX9_dropDie 27 = .ok (.invokevirtual 103, 3) := by decide +kernel
theorem d_9_dropDie_30 : decode cX9_dropDie 30 = .ok (.aload_n 0, 1) := by decide +kernel
theorem d_9_dropDie_31 : decode cX9_dropDie 31 = .ok (.getfield 19, 3) := by decide +kernel
theorem d_9_dropDie_34 : decode cX9_dropDie 34 = .ok (.getfield 152, 3) := by decide +kernel
theorem d_9_dropDie_37 : decode cX9_dropDie 37 = .ok (.iload_n 1, 1) := by decide +kernel
theorem d_9_dropDie_38 : decode cX9_dropDie 38 = .ok (.invokevirtual 156, 3) := by decide +kernel
theorem d_9_dropDie_41 : decode cX9_dropDie 41 = .ok (.aload_n 0, 1) := by decide +kernel
theorem d_9_dropDie_42 : decode cX9_dropDie 42 = .ok (.getfield 19, 3) := by decide +kernel
theorem d_9_dropDie_45 : decode cX9_dropDie 45 = .ok (.getfield 152, 3) := by decide +kernel
theorem d_9_dropDie_48 : decode cX9_dropDie 48 = .ok (.invokevirtual 161, 3) := by decide +kernel
theorem d_9_dropDie_51 : decode cX9_dropDie 51 = .ok (.ireturn, 1) := by decide +kernel
theorem d_9_dropIrregular_0 : decode cX9_dropIrregular 0 = .ok (.aload_n 0, 1) := by decide +kernel
theorem d_9_dropIrregular_1 : decode cX9_dropIrregular 1 = .ok (.getfield 19, 3) := by decide +kernel
theorem d_9_dropIrregular_4 : decode cX9_dropIrregular 4 = .ok (.getfield 162, 3) := by decide +kernel
theorem d_9_dropIrregular_7 : decode cX9_dropIrregular 7 = .ok (.invokevirtual 165, 3) := by decide +kernel
theorem d_9_dropIrregular_10 : decode cX9_dropIrregular 10 = .ok (.iconst 1, 1) := by decide +kernel
theorem d_9_dropIrregular_11 : decode cX9_dropIrregular 11 = .ok (.isub, 1) := by decide +kernel
theorem d_9_dropIrregular_12 : decode cX9_dropIrregular 12 = .ok (.istore_n 1, 1) := by decide +kernel
theorem d_9_dropIrregular_13 : decode cX9_dropIrregular 13 = .ok (.iload_n 1, 1) := by decide +kernel
theorem d_9_dropIrregular_14 : decode cX9_dropIrregular 14 = .ok (.ifCond .ge 13, 3) := by decide +kernel
theorem d_9_dropIrregular_17 : decode cX9_dropIrregular 17 = .ok (.new 96, 3) := by decide +kernel
theorem d_9_dropIrregular_20 : decode cX9_dropIrregular 20 = .ok (.dup, 1) := by decide +kernel
theorem d_9_dropIrregular_21 : decode cX9_dropIrregular 21 = .ok (.ldc 166, 2) := by decide +kernel
theorem d_9_dropIrregular_23 : decode cX9_dropIrregular 23 = .ok (.invokespecial 100, 3) := by decide +kernel
theorem d_9_dropIrregular_26 : decode cX9_dropIrregular 26 = .ok (.athrow, 1) := by decide +kernel
theorem d_9_dropIrregular_27 : decode cX9_dropIrregular 27 = .ok (.aload_n 0, 1) := by decide +kernel
theorem d_9_dropIrregular_28 : decode cX9_dropIrregular 28 = .ok (.getfield 29, 3) := by decide +kernel
theorem d_9_dropIrregular_31 : decode cX9_dropIrregular 31 = .ok (.aload_n 0, 1) := by decide +kernel
theorem d_9_dropIrregular_32 : decode cX9_dropIrregular 32 = .ok (.getfield 19, 3) := by decide +kernel
theorem d_9_dropIrregular_35 : decode cX9_dropIrregular 35 = .ok (.invokevirtual 103, 3) := by decide +kernel
theorem d_9_dropIrregular_38 : decode cX9_dropIrregular 38 = .ok (.aload_n 0, 1) := by decide +kernel
theorem d_9_dropIrregular_39 : decode cX9_dropIrregular 39 = .ok (.getfield 19, 3) := by decide +kernel
theorem d_9_dropIrregular_42 : decode cX9_dropIrregular 42 = .ok (.getfield 162, 3) := by decide +kernel
theorem d_9_dropIrregular_45 : decode cX9_dropIrregular 45 = .ok (.iload_n 1, 1) := by decide +kernel
theorem d_9_dropIrregular_46 : decode cX9_dropIrregular 46 = .ok (.invokevirtual 168, 3) := by decide +kernel
theorem d_9_dropIrregular_49 : decode cX9_dropIrregular 49 = .ok (.aload_n 0, 1) := by decide +kernel
theorem d_9_dropIrregular_50 : decode cX9_dropIrregular 50 = .ok (.getfield 19, 3) := by decide +kernel
theorem d_9_dropIrregular_53 : decode cX9_dropIrregular 53 = .ok (.getfield 169, 3) := by decide +kernel
theorem d_9_dropIrregular_56 : decode cX9_dropIrregular 56 = .ok (.iload_n 1, 1) := by decide +kernel
theorem d_9_dropIrregular_57 : decode cX9_dropIrregular 57 = .ok (.invokevirtual 168, 3) := by decide +kernel
theorem d_9_dropIrregular_60 : decode cX9_dropIrregular 60 = .ok (.aload_n 0, 1) := by decide +kernel
theorem d_9_dropIrregular_61 : decode cX9_dropIrregular 61 = .ok (.getfield 19, 3) := by decide +kernel
theorem d_9_dropIrregular_64 : decode cX9_dropIrregular 64 = .ok (.getfield 162, 3) := by decide +kernel
theorem d_9_dropIrregular_67 : decode cX9_dropIrregular 67 = .ok (.invokevirtual 165, 3) := by decide +kernel
theorem d_9_dropIrregular_70 : decode cX9_dropIrregular 70 = .ok (.ireturn, 1) := by decide +kernel
theorem d_9_type_0 : decode cX9_type 0 = .ok (.aload_n 0, 1) := by decide +kernel
theorem d_9_type_1 : decode cX9_type 1 = .ok (.getfield 10, 3) := by decide +kernel
theorem d_9_type_4 : decode cX9_type 4 = .ok (.invokevirtual 172, 3) := by decide +kernel
theorem d_9_type_7 : decode cX9_type 7 = .ok (.ifCond .eq 13, 3) := by decide +kernel
theorem d_9_type_10 : decode cX9_type 10 = .ok (.new 96, 3) := by decide +kernel
theorem d_9_type_13 : decode cX9_type 13 = .ok (.dup, 1) := by decide +kernel
theorem d_9_type_14 : decode cX9_type 14 = .ok (.ldc 173, 2) := by decide +kernel
theorem d_9_type_16 : decode cX9_type 16 = .ok (.invokespecial 100, 3) := by decide +kernel
theorem d_9_type_19 : decode cX9_type 19 = .ok (.athrow, 1) := by decide +kernel
theorem d_9_type_20 : decode cX9_type 20 = .ok (.aload_n 0, 1) := by decide +kernel
theorem d_9_type_21 : decode cX9_type 21 = .ok (.getfield 10, 3) := by decide +kernel
theorem d_9_type_24 : decode cX9_type 24 = .ok (.iload_n 1, 1) := by decide +kernel
theorem d_9_type_25 : decode cX9_type 25 = .ok (.invokevirtual 175, 3) := by decide +kernel
theorem d_9_type_28 : decode cX9_type 28 = .ok (.aload_n 0, 1) := by decide +kernel
theorem d_9_type_29 : decode cX9_type 29 = .ok (.getfield 10, 3) := by decide +kernel
theorem d_9_type_32 : decode cX9_type 32 = .ok (.invokevirtual 179, 3) := by decide +kernel
theorem d_9_type_35 : decode cX9_type 35 = .ok (.ireturn, 1) := by decide +kernel
theorem d_9_clearText_0 : decode cX9_clearText 0 = .ok (.aload_n 0, 1) := by decide +kernel
theorem d_9_clearText_1 : decode cX9_clearText 1 = .ok (.getfield 10, 3) := by decide +kernel
theorem d_9_clearText_4 : decode cX9_clearText 4 = .ok (.invokevirtual 179, 3) := by decide +kernel
theorem d_9_clearText_7 : decode cX9_clearText 7 = .ok (.istore_n 1, 1) := by decide +kernel
theorem d_9_clearText_8 : decode cX9_clearText 8 = .ok (.aload_n 0, 1) := by decide +kernel
theorem d_9_clearText_9 : decode cX9_clearText 9 = .ok (.getfield 10, 3) := by decide +kernel
theorem d_9_clearText_12 : decode cX9_clearText 12 = .ok (.invokevirtual 182, 3) := by decide +kernel
theorem d_9_clearText_15 : decode cX9_clearText 15 = .ok (.iload_n 1, 1) := by decide +kernel
theorem d_9_clearText_16 : decode cX9_clearText 16 = .ok (.ireturn, 1) := by decide +kernel
theorem d_9_impossibleOrder_0 : decode cX9_impossibleOrder 0 = .ok (.aload_n 0, 1) := by decide +kernel
theorem d_9_impossibleOrder_1 : decode cX9_impossibleOrder 1 = .ok (.invokevirtual 188, 3) := by decide +kernel
theorem d_9_impossibleOrder_4 : decode cX9_impossibleOrder 4 = .ok (.aload_n 0, 1) := by decide +kernel
theorem d_9_impossibleOrder_5 : decode cX9_impossibleOrder 5 = .ok (.invokevirtual 191, 3) := by decide +kernel
theorem d_9_impossibleOrder_8 : decode cX9_impossibleOrder 8 = .ok (.ireturn, 1) := by decide +kernel
theorem d_9_carryOut_0 : decode cX9_carryOut 0 = .ok (.aload_n 0, 1) := by decide +kernel
theorem d_9_carryOut_1 : decode cX9_carryOut 1 = .ok (.invokevirtual 188, 3) := by decide +kernel
theorem d_9_carryOut_4 : decode cX9_carryOut 4 = .ok (.aload_n 0, 1) := by decide +kernel
theorem d_9_carryOut_5 : decode cX9_carryOut 5 = .ok (.invokevirtual 191, 3) := by decide +kernel
theorem d_9_carryOut_8 : decode cX9_carryOut 8 = .ok (.iconst (-1), 1) := by decide +kernel
theorem d_9_carryOut_9 : decode cX9_carryOut 9 = .ok (.if_icmp .eq 13, 3) := by decide +kernel
theorem d_9_carryOut_12 : decode cX9_carryOut 12 = .ok (.new 96, 3) := by decide +kernel
theorem d_9_carryOut_15 : decode cX9_carryOut 15 = .ok (.dup, 1) := by decide +kernel
theorem d_9_carryOut_16 : decode cX9_carryOut 16 = .ok (.ldc 194, 2) := by decide +kernel
theorem d_9_carryOut_18 : decode cX9_carryOut 18 = .ok (.invokespecial 100, 3) := by decide +kernel
theorem d_9_carryOut_21 : decode cX9_carryOut 21 = .ok (.athrow, 1) := by decide +kernel
theorem d_9_carryOut_22 : decode cX9_carryOut 22 = .ok (.aload_n 0, 1) := by decide +kernel
theorem d_9_carryOut_23 : decode cX9_carryOut 23 = .ok (.getfield 29, 3) := by decide +kernel
theorem d_9_carryOut_26 : decode cX9_carryOut 26 = .ok (.aload_n 0, 1) := by decide +kernel
theorem d_9_carryOut_27 : decode cX9_carryOut 27 = .ok (.getfield 19, 3) := by decide +kernel
theorem d_9_carryOut_30 : decode cX9_carryOut 30 = .ok (.invokevirtual 103, 3) := by decide +kernel
theorem d_9_carryOut_33 : decode cX9_carryOut 33 = .ok (.aload_n 0, 1) := by decide +kernel
theorem d_9_carryOut_34 : decode cX9_carryOut 34 = .ok (.getfield 19, 3) := by decide +kernel
theorem d_9_carryOut_37 : decode cX9_carryOut 37 = .ok (.aload_n 0, 1) := by decide +kernel
theorem d_9_carryOut_38 : decode cX9_carryOut 38 = .ok (.getfield 33, 3) := by decide +kernel
theorem d_9_carryOut_41 : decode cX9_carryOut 41 = .ok (.invokevirtual 196, 3) := by decide +kernel
theorem d_9_carryOut_44 : decode cX9_carryOut 44 = .ok (.aload_n 0, 1) := by decide +kernel
theorem d_9_carryOut_45 : decode cX9_carryOut 45 = .ok (.getfield 10, 3) := by decide +kernel
theorem d_9_carryOut_48 : decode cX9_carryOut 48 = .ok (.invokevirtual 199, 3) := by decide +kernel
theorem d_9_carryOut_51 : decode cX9_carryOut 51 = .ok (.ireturn, 1) := by decide +kernel
theorem d_9_undo_0 : decode cX9_undo 0 = .ok (.aload_n 0, 1) := by decide +kernel
theorem d_9_undo_1 : decode cX9_undo 1 = .ok (.getfield 29, 3) := by decide +kernel
theorem d_9_undo_4 : decode cX9_undo 4 = .ok (.invokevirtual 202, 3) := by decide +kernel
theorem d_9_undo_7 : decode cX9_undo 7 = .ok (.ifCond .ne 13, 3) := by decide +kernel
theorem d_9_undo_10 : decode cX9_undo 10 = .ok (.new 96, 3) := by decide +kernel
theorem d_9_undo_13 : decode cX9_undo 13 = .ok (.dup, 1) := by decide +kernel
theorem d_9_undo_14 : decode cX9_undo 14 = .ok (.ldc 203, 2) := by decide +kernel
theorem d_9_undo_16 : decode cX9_undo 16 = .ok (.invokespecial 100, 3) := by decide +kernel
theorem d_9_undo_19 : decode cX9_undo 19 = .ok (.athrow, 1) := by decide +kernel
theorem d_9_undo_20 : decode cX9_undo 20 = .ok (.aload_n 0, 1) := by decide +kernel
theorem d_9_undo_21 : decode cX9_undo 21 = .ok (.getfield 29, 3) := by decide +kernel
theorem d_9_undo_24 : decode cX9_undo 24 = .ok (.aload_n 0, 1) := by decide +kernel
theorem d_9_undo_25 : decode cX9_undo 25 = .ok (.getfield 19, 3) := by decide +kernel
theorem d_9_undo_28 : decode cX9_undo 28 = .ok (.invokevirtual 205, 3) := by decide +kernel
theorem d_9_undo_31 : decode cX9_undo 31 = .ok (.aload_n 0, 1) := by decide +kernel
theorem d_9_undo_32 : decode cX9_undo 32 = .ok (.getfield 29, 3) := by decide +kernel
theorem d_9_undo_35 : decode cX9_undo 35 = .ok (.invokevirtual 202, 3) := by decide +kernel
theorem d_9_undo_38 : decode cX9_undo 38 = .ok (.ireturn, 1) := by decide +kernel
theorem d_9_takeSnapshot_0 : decode cX9_takeSnapshot 0 = .ok (.aload_n 0, 1) := by decide +kernel
theorem d_9_takeSnapshot_1 : decode cX9_takeSnapshot 1 = .ok (.getfield 23, 3) := by decide +kernel
theorem d_9_takeSnapshot_4 : decode cX9_takeSnapshot 4 = .ok (.aload_n 0, 1) := by decide +kernel
theorem d_9_takeSnapshot_5 : decode cX9_takeSnapshot 5 = .ok (.getfield 19, 3) := by decide +kernel
theorem d_9_takeSnapshot_8 : decode cX9_takeSnapshot 8 = .ok (.invokevirtual 196, 3) := by decide +kernel
theorem d_9_takeSnapshot_11 : decode cX9_takeSnapshot 11 = .ok (.aload_n 0, 1) := by decide +kernel
theorem d_9_takeSnapshot_12 : decode cX9_takeSnapshot 12 = .ok (.iconst 1, 1) := by decide +kernel
theorem d_9_takeSnapshot_13 : decode cX9_takeSnapshot 13 = .ok (.putfield 208, 3) := by decide +kernel
theorem d_9_takeSnapshot_16 : decode cX9_takeSnapshot 16 = .ok (.aload_n 0, 1) := by decide +kernel
theorem d_9_takeSnapshot_17 : decode cX9_takeSnapshot 17 = .ok (.getfield 19, 3) := by decide +kernel
theorem d_9_takeSnapshot_20 : decode cX9_takeSnapshot 20 = .ok (.getfield 212, 3) := by decide +kernel
theorem d_9_takeSnapshot_23 : decode cX9_takeSnapshot 23 = .ok (.invokevirtual 165, 3) := by decide +kernel
theorem d_9_takeSnapshot_26 : decode cX9_takeSnapshot 26 = .ok (.ireturn, 1) := by decide +kernel
theorem d_9_restoreSnapshot_0 : decode cX9_restoreSnapshot 0 = .ok (.aload_n 0, 1) := by decide +kernel
theorem d_9_restoreSnapshot_1 : decode cX9_restoreSnapshot 1 = .ok (.getfield 208, 3) := by decide +kernel
theorem d_9_restoreSnapshot_4 : decode cX9_restoreSnapshot 4 = .ok (.ifCond .ne 13, 3) := by decide +kernel
theorem d_9_restoreSnapshot_7 : decode cX9_restoreSnapshot 7 = .ok (.new 96, 3) := by decide +kernel
theorem d_9_restoreSnapshot_10 : decode cX9_restoreSnapshot 10 = .ok (.dup, 1) := by decide +kernel
theorem d_9_restoreSnapshot_11 : decode cX9_restoreSnapshot 11 = .ok (.ldc 215, 2) := by decide +kernel
theorem d_9_restoreSnapshot_13 : decode cX9_restoreSnapshot 13 = .ok (.invokespecial 100, 3) := by decide +kernel
theorem d_9_restoreSnapshot_16 : decode cX9_restoreSnapshot 16 = .ok (.athrow, 1) := by decide +kernel
theorem d_9_restoreSnapshot_17 : decode cX9_restoreSnapshot 17 = .ok (.aload_n 0, 1) := by decide +kernel
theorem d_9_restoreSnapshot_18 : decode cX9_restoreSnapshot 18 = .ok (.getfield 29, 3) := by decide +kernel
theorem d_9_restoreSnapshot_21 : decode cX9_restoreSnapshot 21 = .ok (.aload_n 0, 1) := by decide +kernel
theorem d_9_restoreSnapshot_22 : decode cX9_restoreSnapshot 22 = .ok (.getfield 19, 3) := by decide +kernel
theorem d_9_restoreSnapshot_25 : decode cX9_restoreSnapshot 25 = .ok (.invokevirtual 103, 3) := by decide +kernel
theorem d_9_restoreSnapshot_28 : decode cX9_restoreSnapshot 28 = .ok (.aload_n 0, 1) := by decide +kernel
theorem d_9_restoreSnapshot_29 : decode cX9_restoreSnapshot 29 = .ok (.getfield 19, 3) := by decide +kernel
theorem d_9_restoreSnapshot_32 : decode cX9_restoreSnapshot 32 = .ok (.aload_n 0, 1) := by decide +kernel
theorem d_9_restoreSnapshot_33 : decode cX9_restoreSnapshot 33 = .ok (.getfield 23, 3) := by decide +kernel
theorem d_9_restoreSnapshot_36 : decode cX9_restoreSnapshot 36 = .ok (.invokevirtual 196, 3) := by decide +kernel
theorem d_9_restoreSnapshot_39 : decode cX9_restoreSnapshot 39 = .ok (.aload_n 0, 1) := by decide +kernel
theorem d_9_restoreSnapshot_40 : decode cX9_restoreSnapshot 40 = .ok (.getfield 19, 3) := by decide +kernel
theorem d_9_restoreSnapshot_43 : decode cX9_restoreSnapshot 43 = .ok (.getfield 212, 3) := by decide +kernel
theorem d_9_restoreSnapshot_46 : decode cX9_restoreSnapshot 46 = .ok (.invokevirtual 165, 3) := by decide +kernel
theorem d_9_restoreSnapshot_49 : decode cX9_restoreSnapshot 49 = .ok (.ireturn, 1) := by decide +kernel
theorem d_9_nouns_0 : decode cX9_nouns 0 = .ok (.aload_n 0, 1) := by decide +kernel
theorem d_9_nouns_1 : decode cX9_nouns 1 = .ok (.getfield 19, 3) := by decide +kernel
theorem d_9_nouns_4 : decode cX9_nouns 4 = .ok (.getfield 212, 3) := by decide +kernel
theorem d_9_nouns_7 : decode cX9_nouns 7 = .ok (.invokevirtual 165, 3) := by decide +kernel
theorem d_9_nouns_10 : decode cX9_nouns 10 = .ok (.ireturn, 1) := by decide +kernel
theorem d_9_lettersOf_0 : decode cX9_lettersOf 0 = .ok (.aload_n 0, 1) := by decide +kernel
theorem d_9_lettersOf_1 : decode cX9_lettersOf 1 = .ok (.iload_n 1, 1) := by decide +kernel
theorem d_9_lettersOf_2 : decode cX9_lettersOf 2 = .ok (.invokevirtual 71, 3) := by decide +kernel
theorem d_9_lettersOf_5 : decode cX9_lettersOf 5 = .ok (.aload_n 0, 1) := by decide +kernel
theorem d_9_lettersOf_6 : decode cX9_lettersOf 6 = .ok (.getfield 19, 3) := by decide +kernel
theorem d_9_lettersOf_9 : decode cX9_lettersOf 9 = .ok (.getfield 212, 3) := by decide +kernel
theorem d_9_lettersOf_12 : decode cX9_lettersOf 12 = .ok (.iload_n 1, 1) := by decide +kernel
theorem d_9_lettersOf_13 : decode cX9_lettersOf 13 = .ok (.invokevirtual 217, 3) := by decide +kernel
theorem d_9_lettersOf_16 : decode cX9_lettersOf 16 = .ok (.ireturn, 1) := by decide +kernel
theorem d_9_pluralLetters_0 : decode cX9_pluralLetters 0 = .ok (.aload_n 0, 1) := by decide +kernel
theorem d_9_pluralLetters_1 : decode cX9_pluralLetters 1 = .ok (.iload_n 1, 1) := by decide +kernel
theorem d_9_pluralLetters_2 : decode cX9_pluralLetters 2 = .ok (.invokevirtual 71, 3) := by decide +kernel
theorem d_9_pluralLetters_5 : decode cX9_pluralLetters 5 = .ok (.aload_n 0, 1) := by decide +kernel
theorem d_9_pluralLetters_6 : decode cX9_pluralLetters 6 = .ok (.getfield 19, 3) := by decide +kernel
theorem d_9_pluralLetters_9 : decode cX9_pluralLetters 9 = .ok (.iload_n 1, 1) := by decide +kernel
theorem d_9_pluralLetters_10 : decode cX9_pluralLetters 10 = .ok (.aload_n 0, 1) := by decide +kernel
theorem d_9_pluralLetters_11 : decode cX9_pluralLetters 11 = .ok (.getfield 50, 3) := by decide +kernel
theorem d_9_pluralLetters_14 : decode cX9_pluralLetters 14 = .ok (.invokevirtual 78, 3) := by decide +kernel
theorem d_9_pluralLetters_17 : decode cX9_pluralLetters 17 = .ok (.aload_n 0, 1) := by decide +kernel
theorem d_9_pluralLetters_18 : decode cX9_pluralLetters 18 = .ok (.getfield 50, 3) := by decide +kernel
theorem d_9_pluralLetters_21 : decode cX9_pluralLetters 21 = .ok (.invokevirtual 220, 3) := by decide +kernel
theorem d_9_pluralLetters_24 : decode cX9_pluralLetters 24 = .ok (.ireturn, 1) := by decide +kernel
theorem d_9_pluralLetter_0 : decode cX9_pluralLetter 0 = .ok (.aload_n 0, 1) := by decide +kernel
theorem d_9_pluralLetter_1 : decode cX9_pluralLetter 1 = .ok (.iload_n 1, 1) := by decide +kernel
theorem d_9_pluralLetter_2 : decode cX9_pluralLetter 2 = .ok (.invokevirtual 71, 3) := by decide +kernel
theorem d_9_pluralLetter_5 : decode cX9_pluralLetter 5 = .ok (.aload_n 0, 1) := by decide +kernel
theorem d_9_pluralLetter_6 : decode cX9_pluralLetter 6 = .ok (.getfield 19, 3) := by decide +kernel
theorem d_9_pluralLetter_9 : decode cX9_pluralLetter 9 = .ok (.iload_n 1, 1) := by decide +kernel
theorem d_9_pluralLetter_10 : decode cX9_pluralLetter 10 = .ok (.aload_n 0, 1) := by decide +kernel
theorem d_9_pluralLetter_11 : decode cX9_pluralLetter 11 = .ok (.getfield 50, 3) := by decide +kernel
theorem d_9_pluralLetter_14 : decode cX9_pluralLetter 14 = .ok (.invokevirtual 78, 3) := by decide +kernel
theorem d_9_pluralLetter_17 : decode cX9_pluralLetter 17 = .ok (.iload_n 2, 1) := by decide +kernel
theorem d_9_pluralLetter_18 : decode cX9_pluralLetter 18 = .ok (.aload_n 0, 1) := by decide +kernel
theorem d_9_pluralLetter_19 : decode cX9_pluralLetter 19 = .ok (.getfield 50, 3) := by decide +kernel
theorem d_9_pluralLetter_22 : decode cX9_pluralLetter 22 = .ok (.invokestatic 221, 3) := by decide +kernel
theorem d_9_pluralLetter_25 : decode cX9_pluralLetter 25 = .ok (.aload_n 0, 1) := by decide +kernel
theorem d_9_pluralLetter_26 : decode cX9_pluralLetter 26 = .ok (.getfield 50, 3) := by decide +kernel
theorem d_9_pluralLetter_29 : decode cX9_pluralLetter 29 = .ok (.iload_n 2, 1) := by decide +kernel
theorem d_9_pluralLetter_30 : decode cX9_pluralLetter 30 = .ok (.invokevirtual 224, 3) := by decide +kernel
theorem d_9_pluralLetter_33 : decode cX9_pluralLetter 33 = .ok (.ireturn, 1) := by decide +kernel
theorem d_9_countedLetter_0 : decode cX9_countedLetter 0 = .ok (.aload_n 0, 1) := by decide +kernel
theorem d_9_countedLetter_1 : decode cX9_countedLetter 1 = .ok (.iload_n 1, 1) := by decide +kernel
theorem d_9_countedLetter_2 : decode cX9_countedLetter 2 = .ok (.invokevirtual 71, 3) := by decide +kernel
theorem d_9_countedLetter_5 : decode cX9_countedLetter 5 = .ok (.iload_n 2, 1) := by decide +kernel
theorem d_9_countedLetter_6 : decode cX9_countedLetter 6 = .ok (.invokestatic 228, 3) := by decide +kernel
theorem d_9_countedLetter_9 : decode cX9_countedLetter 9 = .ok (.iload_n 2, 1) := by decide +kernel
theorem d_9_countedLetter_10 : decode cX9_countedLetter 10 = .ok (.iconst 1, 1) := by decide +kernel
theorem d_9_countedLetter_11 : decode cX9_countedLetter 11 = .ok (.if_icmp .ne 21, 3) := by decide +kernel
theorem d_9_countedLetter_14 : decode cX9_countedLetter 14 = .ok (.aload_n 0, 1) := by decide +kernel
theorem d_9_countedLetter_15 : decode cX9_countedLetter 15 = .ok (.getfield 19, 3) := by decide +kernel
theorem d_9_countedLetter_18 : decode cX9_countedLetter 18 = .ok (.getfield 212, 3) := by decide +kernel
theorem d_9_countedLetter_21 : decode cX9_countedLetter 21 = .ok (.iload_n 1, 1) := by decide +kernel
theorem d_9_countedLetter_22 : decode cX9_countedLetter 22 = .ok (.aload_n 0, 1) := by decide +kernel
theorem d_9_countedLetter_23 : decode cX9_countedLetter 23 = .ok (.getfield 46, 3) := by decide +kernel
theorem d_9_countedLetter_26 : decode cX9_countedLetter 26 = .ok (.invokevirtual 231, 3) := by decide +kernel
theorem d_9_countedLetter_29 : decode cX9_countedLetter 29 = .ok (.goto 15, 3) := by decide +kernel
theorem d_9_countedLetter_32 : decode cX9_countedLetter 32 = .ok (.aload_n 0, 1) := by decide +kernel
theorem d_9_countedLetter_33 : decode cX9_countedLetter 33 = .ok (.getfield 19, 3) := by decide +kernel
theorem d_9_countedLetter_36 : decode cX9_countedLetter 36 = .ok (.iload_n 1, 1) := by decide +kernel
theorem d_9_countedLetter_37 : decode cX9_countedLetter 37 = .ok (.aload_n 0, 1) := by decide +kernel
theorem d_9_countedLetter_38 : decode cX9_countedLetter 38 = .ok (.getfield 46, 3) := by decide +kernel
theorem d_9_countedLetter_41 : decode cX9_countedLetter 41 = .ok (.invokevirtual 78, 3) := by decide +kernel
theorem d_9_countedLetter_44 : decode cX9_countedLetter 44 = .ok (.iload_n 3, 1) := by decide +kernel
theorem d_9_countedLetter_45 : decode cX9_countedLetter 45 = .ok (.aload_n 0, 1) := by decide +kernel
theorem d_9_countedLetter_46 : decode cX9_countedLetter 46 = .ok (.getfield 46, 3) := by decide +kernel
theorem d_9_countedLetter_49 : decode cX9_countedLetter 49 = .ok (.invokestatic 221, 3) := by decide +kernel
theorem d_9_countedLetter_52 : decode cX9_countedLetter 52 = .ok (.aload_n 0, 1) := by decide +kernel
theorem d_9_countedLetter_53 : decode cX9_countedLetter 53 = .ok (.getfield 46, 3) := by decide +kernel
theorem d_9_countedLetter_56 : decode cX9_countedLetter 56 = .ok (.iload_n 3, 1) := by decide +kernel
theorem d_9_countedLetter_57 : decode cX9_countedLetter 57 = .ok (.invokevirtual 224, 3) := by decide +kernel
theorem d_9_countedLetter_60 : decode cX9_countedLetter 60 = .ok (.ireturn, 1) := by decide +kernel
theorem d_9_isIrregular_0 : decode cX9_isIrregular 0 = .ok (.aload_n 0, 1) := by decide +kernel
theorem d_9_isIrregular_1 : decode cX9_isIrregular 1 = .ok (.iload_n 1, 1) := by decide +kernel
theorem d_9_isIrregular_2 : decode cX9_isIrregular 2 = .ok (.invokevirtual 71, 3) := by decide +kernel
theorem d_9_isIrregular_5 : decode cX9_isIrregular 5 = .ok (.aload_n 0, 1) := by decide +kernel
theorem d_9_isIrregular_6 : decode cX9_isIrregular 6 = .ok (.getfield 19, 3) := by decide +kernel
theorem d_9_isIrregular_9 : decode cX9_isIrregular 9 = .ok (.getfield 212, 3) := by decide +kernel
theorem d_9_isIrregular_12 : decode cX9_isIrregular 12 = .ok (.iload_n 1, 1) := by decide +kernel
theorem d_9_isIrregular_13 : decode cX9_isIrregular 13 = .ok (.aload_n 0, 1) := by decide +kernel
theorem d_9_isIrregular_14 : decode cX9_isIrregular 14 = .ok (.getfield 46, 3) := by decide +kernel
theorem d_9_isIrregular_17 : decode cX9_isIrregular 17 = .ok (.invokevirtual 231, 3) := by decide +kernel
theorem d_9_isIrregular_20 : decode cX9_isIrregular 20 = .ok (.aload_n 0, 1) := by decide +kernel
theorem d_9_isIrregular_21 : decode cX9_isIrregular 21 = .ok (.getfield 19, 3) := by decide +kernel
theorem d_9_isIrregular_24 : decode cX9_isIrregular 24 = .ok (.getfield 162, 3) := by decide +kernel
theorem d_9_isIrregular_27 : decode cX9_isIrregular 27 = .ok (.aload_n 0, 1) := by decide +kernel
theorem d_9_isIrregular_28 : decode cX9_isIrregular 28 = .ok (.getfield 46, 3) := by decide +kernel
theorem d_9_isIrregular_31 : decode cX9_isIrregular 31 = .ok (.invokevirtual 234, 3) := by decide +kernel
theorem d_9_isIrregular_34 : decode cX9_isIrregular 34 = .ok (.iconst (-1), 1) := by decide +kernel
theorem d_9_isIrregular_35 : decode cX9_isIrregular 35 = .ok (.if_icmp .eq 7, 3) := by decide +kernel
theorem d_9_isIrregular_38 : decode cX9_isIrregular 38 = .ok (.iconst 1, 1) := by decide +kernel
theorem d_9_isIrregular_39 : decode cX9_isIrregular 39 = .ok (.goto 4, 3) := by decide +kernel
theorem d_9_isIrregular_42 : decode cX9_isIrregular 42 = .ok (.iconst 0, 1) := by decide +kernel
theorem d_9_isIrregular_43 : decode cX9_isIrregular 43 = .ok (.ireturn, 1) := by decide +kernel
theorem d_9_dieFor_0 : decode cX9_dieFor 0 = .ok (.aload_n 0, 1) := by decide +kernel
theorem d_9_dieFor_1 : decode cX9_dieFor 1 = .ok (.iload_n 1, 1) := by decide +kernel
theorem d_9_dieFor_2 : decode cX9_dieFor 2 = .ok (.invokevirtual 71, 3) := by decide +kernel
theorem d_9_dieFor_5 : decode cX9_dieFor 5 = .ok (.aload_n 0, 1) := by decide +kernel
theorem d_9_dieFor_6 : decode cX9_dieFor 6 = .ok (.getfield 19, 3) := by decide +kernel
theorem d_9_dieFor_9 : decode cX9_dieFor 9 = .ok (.getfield 212, 3) := by decide +kernel
theorem d_9_dieFor_12 : decode cX9_dieFor 12 = .ok (.iload_n 1, 1) := by decide +kernel
theorem d_9_dieFor_13 : decode cX9_dieFor 13 = .ok (.aload_n 0, 1) := by decide +kernel
theorem d_9_dieFor_14 : decode cX9_dieFor 14 = .ok (.getfield 46, 3) := by decide +kernel
theorem d_9_dieFor_17 : decode cX9_dieFor 17 = .ok (.invokevirtual 231, 3) := by decide +kernel
theorem d_9_dieFor_20 : decode cX9_dieFor 20 = .ok (.aload_n 0, 1) := by decide +kernel
theorem d_9_dieFor_21 : decode cX9_dieFor 21 = .ok (.getfield 19, 3) := by decide +kernel
theorem d_9_dieFor_24 : decode cX9_dieFor 24 = .ok (.getfield 162, 3) := by decide +kernel
theorem d_9_dieFor_27 : decode cX9_dieFor 27 = .ok (.aload_n 0, 1) := by decide +kernel
theorem d_9_dieFor_28 : decode cX9_dieFor 28 = .ok (.getfield 46, 3) := by decide +kernel
theorem d_9_dieFor_31 : decode cX9_dieFor 31 = .ok (.invokevirtual 234, 3) := by decide +kernel
theorem d_9_dieFor_34 : decode cX9_dieFor 34 = .ok (.iconst (-1), 1) := by decide +kernel
theorem d_9_dieFor_35 : decode cX9_dieFor 35 = .ok (.if_icmp .eq 7, 3) := by decide +kernel
theorem d_9_dieFor_38 : decode cX9_dieFor 38 = .ok (.iconst (-1), 1) := by decide +kernel
theorem d_9_dieFor_39 : decode cX9_dieFor 39 = .ok (.goto 17, 3) := by decide +kernel
theorem d_9_dieFor_42 : decode cX9_dieFor 42 = .ok (.aload_n 0, 1) := by decide +kernel
theorem d_9_dieFor_43 : decode cX9_dieFor 43 = .ok (.getfield 19, 3) := by decide +kernel
theorem d_9_dieFor_46 : decode cX9_dieFor 46 = .ok (.getfield 152, 3) := by decide +kernel
theorem d_9_dieFor_49 : decode cX9_dieFor 49 = .ok (.aload_n 0, 1) := by decide +kernel
theorem d_9_dieFor_50 : decode cX9_dieFor 50 = .ok (.getfield 46, 3) := by decide +kernel
theorem d_9_dieFor_53 : decode cX9_dieFor 53 = .ok (.invokevirtual 237, 3) := by decide +kernel
theorem d_9_dieFor_56 : decode cX9_dieFor 56 = .ok (.ireturn, 1) := by decide +kernel
theorem d_9_ambiguousNouns_0 : decode cX9_ambiguousNouns 0 = .ok (.aload_n 0, 1) := by decide +kernel
theorem d_9_ambiguousNouns_1 : decode cX9_ambiguousNouns 1 = .ok (.getfield 61, 3) := by decide +kernel
theorem d_9_ambiguousNouns_4 : decode cX9_ambiguousNouns 4 = .ok (.invokevirtual 240, 3) := by decide +kernel
theorem d_9_ambiguousNouns_7 : decode cX9_ambiguousNouns 7 = .ok (.iconst 0, 1) := by decide +kernel
theorem d_9_ambiguousNouns_8 : decode cX9_ambiguousNouns 8 = .ok (.istore_n 1, 1) := by decide +kernel
theorem d_9_ambiguousNouns_9 : decode cX9_ambiguousNouns 9 = .ok (.iload_n 1, 1) := by decide +kernel
theorem d_9_ambiguousNouns_10 : decode cX9_ambiguousNouns 10 = .ok (.aload_n 0, 1) := by decide +kernel
theorem d_9_ambiguousNouns_11 : decode cX9_ambiguousNouns 11 = .ok (.getfield 19, 3) := by decide +kernel
theorem d_9_ambiguousNouns_14 : decode cX9_ambiguousNouns 14 = .ok (.getfield 212, 3) := by decide +kernel
theorem d_9_ambiguousNouns_17 : decode cX9_ambiguousNouns 17 = .ok (.invokevirtual 165, 3) := by decide +kernel
theorem d_9_ambiguousNouns_20 : decode cX9_ambiguousNouns 20 = .ok (.if_icmp .ge 33, 3) := by decide +kernel
theorem d_9_ambiguousNouns_23 : decode cX9_ambiguousNouns 23 = .ok (.aload_n 0, 1) := by decide +kernel
theorem d_9_ambiguousNouns_24 : decode cX9_ambiguousNouns 24 = .ok (.getfield 19, 3) := by decide +kernel
theorem d_9_ambiguousNouns_27 : decode cX9_ambiguousNouns 27 = .ok (.iload_n 1, 1) := by decide +kernel
theorem d_9_ambiguousNouns_28 : decode cX9_ambiguousNouns 28 = .ok (.aload_n 0, 1) := by decide +kernel
theorem d_9_ambiguousNouns_29 : decode cX9_ambiguousNouns 29 = .ok (.getfield 50, 3) := by decide +kernel
theorem d_9_ambiguousNouns_32 : decode cX9_ambiguousNouns 32 = .ok (.invokevirtual 78, 3) := by decide +kernel
theorem d_9_ambiguousNouns_35 : decode cX9_ambiguousNouns 35 = .ok (.aload_n 0, 1) := by decide +kernel
theorem d_9_ambiguousNouns_36 : decode cX9_ambiguousNouns 36 = .ok (.getfield 61, 3) := by decide +kernel
theorem d_9_ambiguousNouns_39 : decode cX9_ambiguousNouns 39 = .ok (.aload_n 0, 1) := by decide +kernel
theorem d_9_ambiguousNouns_40 : decode cX9_ambiguousNouns 40 = .ok (.getfield 50, 3) := by decide +kernel
theorem d_9_ambiguousNouns_43 : decode cX9_ambiguousNouns 43 = .ok (.invokevirtual 241, 3) := by decide +kernel
theorem d_9_ambiguousNouns_46 : decode cX9_ambiguousNouns 46 = .ok (.pop, 1) := by decide +kernel
theorem d_9_ambiguousNouns_47 : decode cX9_ambiguousNouns 47 = .ok (.iinc 1 1, 3) := by decide +kernel
theorem d_9_ambiguousNouns_50 : decode cX9_ambiguousNouns 50 = .ok (.goto (-41), 3) := by decide +kernel
theorem d_9_ambiguousNouns_53 : decode cX9_ambiguousNouns 53 = .ok (.iconst 0, 1) := by decide +kernel
theorem d_9_ambiguousNouns_54 : decode cX9_ambiguousNouns 54 = .ok (.istore_n 1, 1) := by decide +kernel
theorem d_9_ambiguousNouns_55 : decode cX9_ambiguousNouns 55 = .ok (.iconst 0, 1) := by decide +kernel
theorem d_9_ambiguousNouns_56 : decode cX9_ambiguousNouns 56 = .ok (.istore_n 2, 1) := by decide +kernel
theorem d_9_ambiguousNouns_57 : decode cX9_ambiguousNouns 57 = .ok (.iload_n 2, 1) := by decide +kernel
theorem d_9_ambiguousNouns_58 : decode cX9_ambiguousNouns 58 = .ok (.aload_n 0, 1) := by decide +kernel
theorem d_9_ambiguousNouns_59 : decode cX9_ambiguousNouns 59 = .ok (.getfield 61, 3) := by decide +kernel
theorem d_9_ambiguousNouns_62 : decode cX9_ambiguousNouns 62 = .ok (.invokevirtual 165, 3) := by decide +kernel
theorem d_9_ambiguousNouns_65 : decode cX9_ambiguousNouns 65 = .ok (.if_icmp .ge 39, 3) := by decide +kernel
theorem d_9_ambiguousNouns_68 : decode cX9_ambiguousNouns 68 = .ok (.aload_n 0, 1) := by decide +kernel
theorem d_9_ambiguousNouns_69 : decode cX9_ambiguousNouns 69 = .ok (.getfield 61, 3) := by decide +kernel
theorem d_9_ambiguousNouns_72 : decode cX9_ambiguousNouns 72 = .ok (.iload_n 2, 1) := by decide +kernel
theorem d_9_ambiguousNouns_73 : decode cX9_ambiguousNouns 73 = .ok (.aload_n 0, 1) := by decide +kernel
theorem d_9_ambiguousNouns_74 : decode cX9_ambiguousNouns 74 = .ok (.getfield 50, 3) := by decide +kernel
theorem d_9_ambiguousNouns_77 : decode cX9_ambiguousNouns 77 = .ok (.invokevirtual 231, 3) := by decide +kernel
theorem d_9_ambiguousNouns_80 : decode cX9_ambiguousNouns 80 = .ok (.aload_n 0, 1) := by decide +kernel
theorem d_9_ambiguousNouns_81 : decode cX9_ambiguousNouns 81 = .ok (.getfield 61, 3) := by decide +kernel
theorem d_9_ambiguousNouns_84 : decode cX9_ambiguousNouns 84 = .ok (.aload_n 0, 1) := by decide +kernel
theorem d_9_ambiguousNouns_85 : decode cX9_ambiguousNouns 85 = .ok (.getfield 50, 3) := by decide +kernel
theorem d_9_ambiguousNouns_88 : decode cX9_ambiguousNouns 88 = .ok (.invokevirtual 245, 3) := by decide +kernel
theorem d_9_ambiguousNouns_91 : decode cX9_ambiguousNouns 91 = .ok (.iconst 1, 1) := by decide +kernel
theorem d_9_ambiguousNouns_92 : decode cX9_ambiguousNouns 92 = .ok (.if_icmp .le 6, 3) := by decide +kernel
theorem d_9_ambiguousNouns_95 : decode cX9_ambiguousNouns 95 = .ok (.iinc 1 1, 3) := by decide +kernel
theorem d_9_ambiguousNouns_98 : decode cX9_ambiguousNouns 98 = .ok (.iinc 2 1, 3) := by decide +kernel
theorem d_9_ambiguousNouns_101 : decode cX9_ambiguousNouns 101 = .ok (.goto (-44), 3) := by decide +kernel
theorem d_9_ambiguousNouns_104 : decode cX9_ambiguousNouns 104 = .ok (.iload_n 1, 1) := by decide +kernel
theorem d_9_ambiguousNouns_105 : decode cX9_ambiguousNouns 105 = .ok (.ireturn, 1) := by decide +kernel
theorem d_9_recallByStriking_0 : decode cX9_recallByStriking 0 = .ok (.aload_n 0, 1) := by decide +kernel
theorem d_9_recallByStriking_1 : decode cX9_recallByStriking 1 = .ok (.invokevirtual 248, 3) := by decide +kernel
theorem d_9_recallByStriking_4 : decode cX9_recallByStriking 4 = .ok (.iconst 0, 1) := by decide +kernel
theorem d_9_recallByStriking_5 : decode cX9_recallByStriking 5 = .ok (.istore_n 1, 1) := by decide +kernel
theorem d_9_recallByStriking_6 : decode cX9_recallByStriking 6 = .ok (.iload_n 1, 1) := by decide +kernel
theorem d_9_recallByStriking_7 : decode cX9_recallByStriking 7 = .ok (.aload_n 0, 1) := by decide +kernel
theorem d_9_recallByStriking_8 : decode cX9_recallByStriking 8 = .ok (.getfield 19, 3) := by decide +kernel
theorem d_9_recallByStriking_11 : decode cX9_recallByStriking 11 = .ok (.getfield 212, 3) := by decide +kernel
theorem d_9_recallByStriking_14 : decode cX9_recallByStriking 14 = .ok (.invokevirtual 165, 3) := by decide +kernel
theorem d_9_recallByStriking_17 : decode cX9_recallByStriking 17 = .ok (.if_icmp .ge 37, 3) := by decide +kernel
theorem d_9_recallByStriking_20 : decode cX9_recallByStriking 20 = .ok (.aload_n 0, 1) := by decide +kernel
theorem d_9_recallByStriking_21 : decode cX9_recallByStriking 21 = .ok (.getfield 19, 3) := by decide +kernel
theorem d_9_recallByStriking_24 : decode cX9_recallByStriking 24 = .ok (.iload_n 1, 1) := by decide +kernel
theorem d_9_recallByStriking_25 : decode cX9_recallByStriking 25 = .ok (.aload_n 0, 1) := by decide +kernel
theorem d_9_recallByStriking_26 : decode cX9_recallByStriking 26 = .ok (.getfield 50, 3) := by decide +kernel
theorem d_9_recallByStriking_29 : decode cX9_recallByStriking 29 = .ok (.invokevirtual 78, 3) := by decide +kernel
theorem d_9_recallByStriking_32 : decode cX9_recallByStriking 32 = .ok (.aload_n 0, 1) := by decide +kernel
theorem d_9_recallByStriking_33 : decode cX9_recallByStriking 33 = .ok (.getfield 50, 3) := by decide +kernel
theorem d_9_recallByStriking_36 : decode cX9_recallByStriking 36 = .ok (.aload_n 0, 1) := by decide +kernel
theorem d_9_recallByStriking_37 : decode cX9_recallByStriking 37 = .ok (.getfield 46, 3) := by decide +kernel
theorem d_9_recallByStriking_40 : decode cX9_recallByStriking 40 = .ok (.invokevirtual 251, 3) := by decide +kernel
theorem d_9_recallByStriking_43 : decode cX9_recallByStriking 43 = .ok (.ifCond .eq 5, 3) := by decide +kernel
theorem d_9_recallByStriking_46 : decode cX9_recallByStriking 46 = .ok (.iload_n 1, 1) := by decide +kernel
theorem d_9_recallByStriking_47 : decode cX9_recallByStriking 47 = .ok (.ireturn, 1) := by decide +kernel
theorem d_9_recallByStriking_48 : decode cX9_recallByStriking 48 = .ok (.iinc 1 1, 3) := by decide +kernel
theorem d_9_recallByStriking_51 : decode cX9_recallByStriking 51 = .ok (.goto (-45), 3) := by decide +kernel
theorem d_9_recallByStriking_54 : decode cX9_recallByStriking 54 = .ok (.iconst (-1), 1) := by decide +kernel
theorem d_9_recallByStriking_55 : decode cX9_recallByStriking 55 = .ok (.ireturn, 1) := by decide +kernel
theorem d_9_recallByReversing_0 : decode cX9_recallByReversing 0 = .ok (.aload_n 0, 1) := by decide +kernel
theorem d_9_recallByReversing_1 : decode cX9_recallByReversing 1 = .ok (.invokevirtual 248, 3) := by decide +kernel
theorem d_9_recallByReversing_4 : decode cX9_recallByReversing 4 = .ok (.aload_n 0, 1) := by decide +kernel
theorem d_9_recallByReversing_5 : decode cX9_recallByReversing 5 = .ok (.invokevirtual 254, 3) := by decide +kernel
theorem d_9_recallByReversing_8 : decode cX9_recallByReversing 8 = .ok (.iconst (-1), 1) := by decide +kernel
theorem d_9_recallByReversing_9 : decode cX9_recallByReversing 9 = .ok (.istore_n 1, 1) := by decide +kernel
theorem d_9_recallByReversing_10 : decode cX9_recallByReversing 10 = .ok (.iconst 0, 1) := by decide +kernel
theorem d_9_recallByReversing_11 : decode cX9_recallByReversing 11 = .ok (.istore_n 2, 1) := by decide +kernel
theorem d_9_recallByReversing_12 : decode cX9_recallByReversing 12 = .ok (.iload_n 2, 1) := by decide +kernel
theorem d_9_recallByReversing_13 : decode cX9_recallByReversing 13 = .ok (.aload_n 0, 1) := by decide +kernel
theorem d_9_recallByReversing_14 : decode cX9_recallByReversing 14 = .ok (.getfield 65, 3) := by decide +kernel
theorem d_9_recallByReversing_17 : decode cX9_recallByReversing 17 = .ok (.invokevirtual 165, 3) := by decide +kernel
theorem d_9_recallByReversing_20 : decode cX9_recallByReversing 20 = .ok (.if_icmp .ge 53, 3) := by decide +kernel
theorem d_9_recallByReversing_23 : decode cX9_recallByReversing 23 = .ok (.aload_n 0, 1) := by decide +kernel
theorem d_9_recallByReversing_24 : decode cX9_recallByReversing 24 = .ok (.getfield 65, 3) := by decide +kernel
theorem d_9_recallByReversing_27 : decode cX9_recallByReversing 27 = .ok (.iload_n 2, 1) := by decide +kernel
theorem d_9_recallByReversing_28 : decode cX9_recallByReversing 28 = .ok (.aload_n 0, 1) := by decide +kernel
theorem d_9_recallByReversing_29 : decode cX9_recallByReversing 29 = .ok (.getfield 53, 3) := by decide +kernel
theorem d_9_recallByReversing_32 : decode cX9_recallByReversing 32 = .ok (.invokevirtual 231, 3) := by decide +kernel
theorem d_9_recallByReversing_35 : decode cX9_recallByReversing 35 = .ok (.aload_n 0, 1) := by decide +kernel
theorem d_9_recallByReversing_36 : decode cX9_recallByReversing 36 = .ok (.getfield 19, 3) := by decide +kernel
theorem d_9_recallByReversing_39 : decode cX9_recallByReversing 39 = .ok (.getfield 212, 3) := by decide +kernel
theorem d_9_recallByReversing_42 : decode cX9_recallByReversing 42 = .ok (.aload_n 0, 1) := by decide +kernel
theorem d_9_recallByReversing_43 : decode cX9_recallByReversing 43 = .ok (.getfield 53, 3) := by decide +kernel
theorem d_9_recallByReversing_46 : decode cX9_recallByReversing 46 = .ok (.invokevirtual 234, 3) := by decide +kernel
theorem d_9_recallByReversing_49 : decode cX9_recallByReversing 49 = .ok (.istore_n 3, 1) := by decide +kernel
theorem d_9_recallByReversing_50 : decode cX9_recallByReversing 50 = .ok (.iload_n 3, 1) := by decide +kernel
theorem d_9_recallByReversing_51 : decode cX9_recallByReversing 51 = .ok (.iconst (-1), 1) := by decide +kernel
theorem d_9_recallByReversing_52 : decode cX9_recallByReversing 52 = .ok (.if_icmp .eq 15, 3) := by decide +kernel
theorem d_9_recallByReversing_55 : decode cX9_recallByReversing 55 = .ok (.iload_n 1, 1) := by decide +kernel
theorem d_9_recallByReversing_56 : decode cX9_recallByReversing 56 = .ok (.iconst (-1), 1) := by decide +kernel
theorem d_9_recallByReversing_57 : decode cX9_recallByReversing 57 = .ok (.if_icmp .eq 8, 3) := by decide +kernel
theorem d_9_recallByReversing_60 : decode cX9_recallByReversing 60 = .ok (.iload_n 3, 1) := by decide +kernel
theorem d_9_recallByReversing_61 : decode cX9_recallByReversing 61 = .ok (.iload_n 1, 1) := by decide +kernel
theorem d_9_recallByReversing_62 : decode cX9_recallByReversing 62 = .ok (.if_icmp .ge 5, 3) := by decide +kernel
theorem d_9_recallByReversing_65 : decode cX9_recallByReversing 65 = .ok (.iload_n 3, 1) := by decide +kernel
theorem d_9_recallByReversing_66 : decode cX9_recallByReversing 66 = .ok (.istore_n 1, 1) := by decide +kernel
theorem d_9_recallByReversing_67 : decode cX9_recallByReversing 67 = .ok (.iinc 2 1, 3) := by decide +kernel
theorem d_9_recallByReversing_70 : decode cX9_recallByReversing 70 = .ok (.goto (-58), 3) := by decide +kernel
theorem d_9_recallByReversing_73 : decode cX9_recallByReversing 73 = .ok (.iload_n 1, 1) := by decide +kernel
theorem d_9_recallByReversing_74 : decode cX9_recallByReversing 74 = .ok (.ireturn, 1) := by decide +kernel
theorem d_9_possibleNouns_0 : decode cX9_possibleNouns 0 = .ok (.aload_n 0, 1) := by decide +kernel
theorem d_9_possibleNouns_1 : decode cX9_possibleNouns 1 = .ok (.invokevirtual 248, 3) := by decide +kernel
theorem d_9_possibleNouns_4 : decode cX9_possibleNouns 4 = .ok (.aload_n 0, 1) := by decide +kernel
theorem d_9_possibleNouns_5 : decode cX9_possibleNouns 5 = .ok (.invokevirtual 254, 3) := by decide +kernel
theorem d_9_possibleNouns_8 : decode cX9_possibleNouns 8 = .ok (.aload_n 0, 1) := by decide +kernel
theorem d_9_possibleNouns_9 : decode cX9_possibleNouns 9 = .ok (.getfield 65, 3) := by decide +kernel
theorem d_9_possibleNouns_12 : decode cX9_possibleNouns 12 = .ok (.invokevirtual 165, 3) := by decide +kernel
theorem d_9_possibleNouns_15 : decode cX9_possibleNouns 15 = .ok (.ireturn, 1) := by decide +kernel
theorem d_9_dies_0 : decode cX9_dies 0 = .ok (.aload_n 0, 1) := by decide +kernel
theorem d_9_dies_1 : decode cX9_dies 1 = .ok (.getfield 19, 3) := by decide +kernel
theorem d_9_dies_4 : decode cX9_dies 4 = .ok (.getfield 152, 3) := by decide +kernel
theorem d_9_dies_7 : decode cX9_dies 7 = .ok (.invokevirtual 161, 3) := by decide +kernel
theorem d_9_dies_10 : decode cX9_dies 10 = .ok (.ireturn, 1) := by decide +kernel
theorem d_9_irregulars_0 : decode cX9_irregulars 0 = .ok (.aload_n 0, 1) := by decide +kernel
theorem d_9_irregulars_1 : decode cX9_irregulars 1 = .ok (.getfield 19, 3) := by decide +kernel
theorem d_9_irregulars_4 : decode cX9_irregulars 4 = .ok (.getfield 162, 3) := by decide +kernel
theorem d_9_irregulars_7 : decode cX9_irregulars 7 = .ok (.invokevirtual 165, 3) := by decide +kernel
theorem d_9_irregulars_10 : decode cX9_irregulars 10 = .ok (.ireturn, 1) := by decide +kernel
theorem d_9_fitsOf_0 : decode cX9_fitsOf 0 = .ok (.aload_n 0, 1) := by decide +kernel
theorem d_9_fitsOf_1 : decode cX9_fitsOf 1 = .ok (.iload_n 1, 1) := by decide +kernel
theorem d_9_fitsOf_2 : decode cX9_fitsOf 2 = .ok (.invokevirtual 147, 3) := by decide +kernel
theorem d_9_fitsOf_5 : decode cX9_fitsOf 5 = .ok (.iconst 0, 1) := by decide +kernel
theorem d_9_fitsOf_6 : decode cX9_fitsOf 6 = .ok (.istore_n 2, 1) := by decide +kernel
theorem d_9_fitsOf_7 : decode cX9_fitsOf 7 = .ok (.iconst 0, 1) := by decide +kernel
theorem d_9_fitsOf_8 : decode cX9_fitsOf 8 = .ok (.istore_n 3, 1) := by decide +kernel
theorem d_9_fitsOf_9 : decode cX9_fitsOf 9 = .ok (.iload_n 3, 1) := by decide +kernel
theorem d_9_fitsOf_10 : decode cX9_fitsOf 10 = .ok (.aload_n 0, 1) := by decide +kernel
theorem d_9_fitsOf_11 : decode cX9_fitsOf 11 = .ok (.getfield 19, 3) := by decide +kernel
theorem d_9_fitsOf_14 : decode cX9_fitsOf 14 = .ok (.getfield 212, 3) := by decide +kernel
theorem d_9_fitsOf_17 : decode cX9_fitsOf 17 = .ok (.invokevirtual 165, 3) := by decide +kernel
theorem d_9_fitsOf_20 : decode cX9_fitsOf 20 = .ok (.if_icmp .ge 45, 3) := by decide +kernel
theorem d_9_fitsOf_23 : decode cX9_fitsOf 23 = .ok (.aload_n 0, 1) := by decide +kernel
theorem d_9_fitsOf_24 : decode cX9_fitsOf 24 = .ok (.getfield 19, 3) := by decide +kernel
theorem d_9_fitsOf_27 : decode cX9_fitsOf 27 = .ok (.getfield 212, 3) := by decide +kernel
theorem d_9_fitsOf_30 : decode cX9_fitsOf 30 = .ok (.iload_n 3, 1) := by decide +kernel
theorem d_9_fitsOf_31 : decode cX9_fitsOf 31 = .ok (.aload_n 0, 1) := by decide +kernel
theorem d_9_fitsOf_32 : decode cX9_fitsOf 32 = .ok (.getfield 46, 3) := by decide +kernel
theorem d_9_fitsOf_35 : decode cX9_fitsOf 35 = .ok (.invokevirtual 231, 3) := by decide +kernel
theorem d_9_fitsOf_38 : decode cX9_fitsOf 38 = .ok (.aload_n 0, 1) := by decide +kernel
theorem d_9_fitsOf_39 : decode cX9_fitsOf 39 = .ok (.getfield 19, 3) := by decide +kernel
theorem d_9_fitsOf_42 : decode cX9_fitsOf 42 = .ok (.getfield 152, 3) := by decide +kernel
theorem d_9_fitsOf_45 : decode cX9_fitsOf 45 = .ok (.iload_n 1, 1) := by decide +kernel
theorem d_9_fitsOf_46 : decode cX9_fitsOf 46 = .ok (.aload_n 0, 1) := by decide +kernel
theorem d_9_fitsOf_47 : decode cX9_fitsOf 47 = .ok (.getfield 46, 3) := by decide +kernel
theorem d_9_fitsOf_50 : decode cX9_fitsOf 50 = .ok (.invokevirtual 257, 3) := by decide +kernel
theorem d_9_fitsOf_53 : decode cX9_fitsOf 53 = .ok (.ifCond .eq 6, 3) := by decide +kernel
theorem d_9_fitsOf_56 : decode cX9_fitsOf 56 = .ok (.iinc 2 1, 3) := by decide +kernel
theorem d_9_fitsOf_59 : decode cX9_fitsOf 59 = .ok (.iinc 3 1, 3) := by decide +kernel
theorem d_9_fitsOf_62 : decode cX9_fitsOf 62 = .ok (.goto (-53), 3) := by decide +kernel
theorem d_9_fitsOf_65 : decode cX9_fitsOf 65 = .ok (.iload_n 2, 1) := by decide +kernel
theorem d_9_fitsOf_66 : decode cX9_fitsOf 66 = .ok (.ireturn, 1) := by decide +kernel
theorem d_9_coinsOf_0 : decode cX9_coinsOf 0 = .ok (.aload_n 0, 1) := by decide +kernel
theorem d_9_coinsOf_1 : decode cX9_coinsOf 1 = .ok (.iload_n 1, 1) := by decide +kernel
theorem d_9_coinsOf_2 : decode cX9_coinsOf 2 = .ok (.invokevirtual 71, 3) := by decide +kernel
theorem d_9_coinsOf_5 : decode cX9_coinsOf 5 = .ok (.aload_n 0, 1) := by decide +kernel
theorem d_9_coinsOf_6 : decode cX9_coinsOf 6 = .ok (.getfield 19, 3) := by decide +kernel
theorem d_9_coinsOf_9 : decode cX9_coinsOf 9 = .ok (.getfield 82, 3) := by decide +kernel
theorem d_9_coinsOf_12 : decode cX9_coinsOf 12 = .ok (.iload_n 1, 1) := by decide +kernel
theorem d_9_coinsOf_13 : decode cX9_coinsOf 13 = .ok (.invokevirtual 118, 3) := by decide +kernel
theorem d_9_coinsOf_16 : decode cX9_coinsOf 16 = .ok (.ireturn, 1) := by decide +kernel
theorem d_9_heaps_0 : decode cX9_heaps 0 = .ok (.aload_n 0, 1) := by decide +kernel
theorem d_9_heaps_1 : decode cX9_heaps 1 = .ok (.getfield 19, 3) := by decide +kernel
theorem d_9_heaps_4 : decode cX9_heaps 4 = .ok (.getfield 82, 3) := by decide +kernel
theorem d_9_heaps_7 : decode cX9_heaps 7 = .ok (.invokevirtual 130, 3) := by decide +kernel
theorem d_9_heaps_10 : decode cX9_heaps 10 = .ok (.ireturn, 1) := by decide +kernel
theorem d_9_staleCoins_0 : decode cX9_staleCoins 0 = .ok (.iconst 0, 1) := by decide +kernel
theorem d_9_staleCoins_1 : decode cX9_staleCoins 1 = .ok (.istore_n 1, 1) := by decide +kernel
theorem d_9_staleCoins_2 : decode cX9_staleCoins 2 = .ok (.iconst 0, 1) := by decide +kernel
theorem d_9_staleCoins_3 : decode cX9_staleCoins 3 = .ok (.istore_n 2, 1) := by decide +kernel
theorem d_9_staleCoins_4 : decode cX9_staleCoins 4 = .ok (.iload_n 2, 1) := by decide +kernel
theorem d_9_staleCoins_5 : decode cX9_staleCoins 5 = .ok (.aload_n 0, 1) := by decide +kernel
theorem d_9_staleCoins_6 : decode cX9_staleCoins 6 = .ok (.getfield 19, 3) := by decide +kernel
theorem d_9_staleCoins_9 : decode cX9_staleCoins 9 = .ok (.getfield 82, 3) := by decide +kernel
theorem d_9_staleCoins_12 : decode cX9_staleCoins 12 = .ok (.invokevirtual 130, 3) := by decide +kernel
theorem d_9_staleCoins_15 : decode cX9_staleCoins 15 = .ok (.if_icmp .ge 38, 3) := by decide +kernel
theorem d_9_staleCoins_18 : decode cX9_staleCoins 18 = .ok (.aload_n 0, 1) := by decide +kernel
theorem d_9_staleCoins_19 : decode cX9_staleCoins 19 = .ok (.getfield 19, 3) := by decide +kernel
theorem d_9_staleCoins_22 : decode cX9_staleCoins 22 = .ok (.iload_n 2, 1) := by decide +kernel
theorem d_9_staleCoins_23 : decode cX9_staleCoins 23 = .ok (.aload_n 0, 1) := by decide +kernel
theorem d_9_staleCoins_24 : decode cX9_staleCoins 24 = .ok (.getfield 50, 3) := by decide +kernel
theorem d_9_staleCoins_27 : decode cX9_staleCoins 27 = .ok (.invokevirtual 134, 3) := by decide +kernel
theorem d_9_staleCoins_30 : decode cX9_staleCoins 30 = .ok (.ifCond .eq 17, 3) := by decide +kernel
theorem d_9_staleCoins_33 : decode cX9_staleCoins 33 = .ok (.iload_n 1, 1) := by decide +kernel
theorem d_9_staleCoins_34 : decode cX9_staleCoins 34 = .ok (.aload_n 0, 1) := by decide +kernel
theorem d_9_staleCoins_35 : decode cX9_staleCoins 35 = .ok (.getfield 19, 3) := by decide +kernel
theorem d_9_staleCoins_38 : decode cX9_staleCoins 38 = .ok (.getfield 82, 3) := by decide +kernel
theorem d_9_staleCoins_41 : decode cX9_staleCoins 41 = .ok (.iload_n 2, 1) := by decide +kernel
theorem d_9_staleCoins_42 : decode cX9_staleCoins 42 = .ok (.invokevirtual 138, 3) := by decide +kernel
theorem d_9_staleCoins_45 : decode cX9_staleCoins 45 = .ok (.iadd, 1) := by decide +kernel
theorem d_9_staleCoins_46 : decode cX9_staleCoins 46 = .ok (.istore_n 1, 1) := by decide +kernel
theorem d_9_staleCoins_47 : decode cX9_staleCoins 47 = .ok (.iinc 2 1, 3) := by decide +kernel
theorem d_9_staleCoins_50 : decode cX9_staleCoins 50 = .ok (.goto (-46), 3) := by decide +kernel
theorem d_9_staleCoins_53 : decode cX9_staleCoins 53 = .ok (.iload_n 1, 1) := by decide +kernel
theorem d_9_staleCoins_54 : decode cX9_staleCoins 54 = .ok (.ireturn, 1) := by decide +kernel
theorem d_9_coinsByHeaps_0 : decode cX9_coinsByHeaps 0 = .ok (.iconst 0, 1) := by decide +kernel
theorem d_9_coinsByHeaps_1 : decode cX9_coinsByHeaps 1 = .ok (.istore_n 1, 1) := by decide +kernel
theorem d_9_coinsByHeaps_2 : decode cX9_coinsByHeaps 2 = .ok (.iconst 0, 1) := by decide +kernel
theorem d_9_coinsByHeaps_3 : decode cX9_coinsByHeaps 3 = .ok (.istore_n 2, 1) := by decide +kernel
theorem d_9_coinsByHeaps_4 : decode cX9_coinsByHeaps 4 = .ok (.iload_n 2, 1) := by decide +kernel
theorem d_9_coinsByHeaps_5 : decode cX9_coinsByHeaps 5 = .ok (.aload_n 0, 1) := by decide +kernel
theorem d_9_coinsByHeaps_6 : decode cX9_coinsByHeaps 6 = .ok (.getfield 19, 3) := by decide +kernel
theorem d_9_coinsByHeaps_9 : decode cX9_coinsByHeaps 9 = .ok (.getfield 82, 3) := by decide +kernel
theorem d_9_coinsByHeaps_12 : decode cX9_coinsByHeaps 12 = .ok (.invokevirtual 130, 3) := by decide +kernel
theorem d_9_coinsByHeaps_15 : decode cX9_coinsByHeaps 15 = .ok (.if_icmp .ge 23, 3) := by decide +kernel
theorem d_9_coinsByHeaps_18 : decode cX9_coinsByHeaps 18 = .ok (.iload_n 1, 1) := by decide +kernel
theorem d_9_coinsByHeaps_19 : decode cX9_coinsByHeaps 19 = .ok (.aload_n 0, 1) := by decide +kernel
theorem d_9_coinsByHeaps_20 : decode cX9_coinsByHeaps 20 = .ok (.getfield 19, 3) := by decide +kernel
theorem d_9_coinsByHeaps_23 : decode cX9_coinsByHeaps 23 = .ok (.getfield 82, 3) := by decide +kernel
theorem d_9_coinsByHeaps_26 : decode cX9_coinsByHeaps 26 = .ok (.iload_n 2, 1) := by decide +kernel
theorem d_9_coinsByHeaps_27 : decode cX9_coinsByHeaps 27 = .ok (.invokevirtual 138, 3) := by decide +kernel
theorem d_9_coinsByHeaps_30 : decode cX9_coinsByHeaps 30 = .ok (.iadd, 1) := by decide +kernel
theorem d_9_coinsByHeaps_31 : decode cX9_coinsByHeaps 31 = .ok (.istore_n 1, 1) := by decide +kernel
theorem d_9_coinsByHeaps_32 : decode cX9_coinsByHeaps 32 = .ok (.iinc 2 1, 3) := by decide +kernel
theorem d_9_coinsByHeaps_35 : decode cX9_coinsByHeaps 35 = .ok (.goto (-31), 3) := by decide +kernel
theorem d_9_coinsByHeaps_38 : decode cX9_coinsByHeaps 38 = .ok (.iload_n 1, 1) := by decide +kernel
theorem d_9_coinsByHeaps_39 : decode cX9_coinsByHeaps 39 = .ok (.ireturn, 1) := by decide +kernel
theorem d_9_coinsByAccounts_0 : decode cX9_coinsByAccounts 0 = .ok (.aload_n 0, 1) := by decide +kernel
theorem d_9_coinsByAccounts_1 : decode cX9_coinsByAccounts 1 = .ok (.getfield 19, 3) := by decide +kernel
theorem d_9_coinsByAccounts_4 : decode cX9_coinsByAccounts 4 = .ok (.getfield 114, 3) := by decide +kernel
theorem d_9_coinsByAccounts_7 : decode cX9_coinsByAccounts 7 = .ok (.aload_n 0, 1) := by decide +kernel
theorem d_9_coinsByAccounts_8 : decode cX9_coinsByAccounts 8 = .ok (.getfield 19, 3) := by decide +kernel
theorem d_9_coinsByAccounts_11 : decode cX9_coinsByAccounts 11 = .ok (.getfield 127, 3) := by decide +kernel
theorem d_9_coinsByAccounts_14 : decode cX9_coinsByAccounts 14 = .ok (.isub, 1) := by decide +kernel
theorem d_9_coinsByAccounts_15 : decode cX9_coinsByAccounts 15 = .ok (.ireturn, 1) := by decide +kernel
theorem d_9_recordedStates_0 : decode cX9_recordedStates 0 = .ok (.aload_n 0, 1) := by decide +kernel
theorem d_9_recordedStates_1 : decode cX9_recordedStates 1 = .ok (.getfield 29, 3) := by decide +kernel
theorem d_9_recordedStates_4 : decode cX9_recordedStates 4 = .ok (.invokevirtual 202, 3) := by decide +kernel
theorem d_9_recordedStates_7 : decode cX9_recordedStates 7 = .ok (.ireturn, 1) := by decide +kernel
theorem d_9_checkNoun_0 : decode cX9_checkNoun 0 = .ok (.iload_n 1, 1) := by decide +kernel
theorem d_9_checkNoun_1 : decode cX9_checkNoun 1 = .ok (.ifCond .lt 17, 3) := by decide +kernel
theorem d_9_checkNoun_4 : decode cX9_checkNoun 4 = .ok (.iload_n 1, 1) := by decide +kernel
theorem d_9_checkNoun_5 : decode cX9_checkNoun 5 = .ok (.aload_n 0, 1) := by decide +kernel
theorem d_9_checkNoun_6 : decode cX9_checkNoun 6 = .ok (.getfield 19, 3) := by decide +kernel
theorem d_9_checkNoun_9 : decode cX9_checkNoun 9 = .ok (.getfield 212, 3) := by decide +kernel
theorem d_9_checkNoun_12 : decode cX9_checkNoun 12 = .ok (.invokevirtual 165, 3) := by decide +kernel
theorem d_9_checkNoun_15 : decode cX9_checkNoun 15 = .ok (.if_icmp .lt 14, 3) := by decide +kernel
theorem d_9_checkNoun_18 : decode cX9_checkNoun 18 = .ok (.new 260, 3) := by decide +kernel
theorem d_9_checkNoun_21 : decode cX9_checkNoun 21 = .ok (.dup, 1) := by decide +kernel
theorem d_9_checkNoun_22 : decode cX9_checkNoun 22 = .ok (.ldc_w 262, 3) := by decide +kernel
theorem d_9_checkNoun_25 : decode cX9_checkNoun 25 = .ok (.invokespecial 264, 3) := by decide +kernel
theorem d_9_checkNoun_28 : decode cX9_checkNoun 28 = .ok (.athrow, 1) := by decide +kernel
theorem d_9_checkNoun_29 : decode cX9_checkNoun 29 = .ok (.return_, 1) := by decide +kernel
theorem d_9_checkDie_0 : decode cX9_checkDie 0 = .ok (.iload_n 1, 1) := by decide +kernel
theorem d_9_checkDie_1 : decode cX9_checkDie 1 = .ok (.ifCond .lt 17, 3) := by decide +kernel
theorem d_9_checkDie_4 : decode cX9_checkDie 4 = .ok (.iload_n 1, 1) := by decide +kernel
theorem d_9_checkDie_5 : decode cX9_checkDie 5 = .ok (.aload_n 0, 1) := by decide +kernel
theorem d_9_checkDie_6 : decode cX9_checkDie 6 = .ok (.getfield 19, 3) := by decide +kernel
theorem d_9_checkDie_9 : decode cX9_checkDie 9 = .ok (.getfield 152, 3) := by decide +kernel
theorem d_9_checkDie_12 : decode cX9_checkDie 12 = .ok (.invokevirtual 161, 3) := by decide +kernel
theorem d_9_checkDie_15 : decode cX9_checkDie 15 = .ok (.if_icmp .lt 14, 3) := by decide +kernel
theorem d_9_checkDie_18 : decode cX9_checkDie 18 = .ok (.new 260, 3) := by decide +kernel
theorem d_9_checkDie_21 : decode cX9_checkDie 21 = .ok (.dup, 1) := by decide +kernel
theorem d_9_checkDie_22 : decode cX9_checkDie 22 = .ok (.ldc_w 265, 3) := by decide +kernel
theorem d_9_checkDie_25 : decode cX9_checkDie 25 = .ok (.invokespecial 264, 3) := by decide +kernel
theorem d_9_checkDie_28 : decode cX9_checkDie 28 = .ok (.athrow, 1) := by decide +kernel
theorem d_9_checkDie_29 : decode cX9_checkDie 29 = .ok (.return_, 1) := by decide +kernel
theorem d_9_checkPlace_0 : decode cX9_checkPlace 0 = .ok (.iload_n 0, 1) := by decide +kernel
theorem d_9_checkPlace_1 : decode cX9_checkPlace 1 = .ok (.ifCond .lt 11, 3) := by decide +kernel
theorem d_9_checkPlace_4 : decode cX9_checkPlace 4 = .ok (.iload_n 0, 1) := by decide +kernel
theorem d_9_checkPlace_5 : decode cX9_checkPlace 5 = .ok (.aload_n 1, 1) := by decide +kernel
theorem d_9_checkPlace_6 : decode cX9_checkPlace 6 = .ok (.invokevirtual 220, 3) := by decide +kernel
theorem d_9_checkPlace_9 : decode cX9_checkPlace 9 = .ok (.if_icmp .lt 14, 3) := by decide +kernel
theorem d_9_checkPlace_12 : decode cX9_checkPlace 12 = .ok (.new 260, 3) := by decide +kernel
theorem d_9_checkPlace_15 : decode cX9_checkPlace 15 = .ok (.dup, 1) := by decide +kernel
theorem d_9_checkPlace_16 : decode cX9_checkPlace 16 = .ok (.ldc_w 267, 3) := by decide +kernel
theorem d_9_checkPlace_19 : decode cX9_checkPlace 19 = .ok (.invokespecial 264, 3) := by decide +kernel
theorem d_9_checkPlace_22 : decode cX9_checkPlace 22 = .ok (.athrow, 1) := by decide +kernel
theorem d_9_checkPlace_23 : decode cX9_checkPlace 23 = .ok (.return_, 1) := by decide +kernel
theorem d_9_checkMany_0 : decode cX9_checkMany 0 = .ok (.iload_n 0, 1) := by decide +kernel
theorem d_9_checkMany_1 : decode cX9_checkMany 1 = .ok (.iconst 1, 1) := by decide +kernel
theorem d_9_checkMany_2 : decode cX9_checkMany 2 = .ok (.if_icmp .lt 9, 3) := by decide +kernel
theorem d_9_checkMany_5 : decode cX9_checkMany 5 = .ok (.iload_n 0, 1) := by decide +kernel
theorem d_9_checkMany_6 : decode cX9_checkMany 6 = .ok (.bipush 99, 2) := by decide +kernel
theorem d_9_checkMany_8 : decode cX9_checkMany 8 = .ok (.if_icmp .le 14, 3) := by decide +kernel
theorem d_9_checkMany_11 : decode cX9_checkMany 11 = .ok (.new 269, 3) := by decide +kernel
theorem d_9_checkMany_14 : decode cX9_checkMany 14 = .ok (.dup, 1) := by decide +kernel
theorem d_9_checkMany_15 : decode cX9_checkMany 15 = .ok (.ldc_w 271, 3) := by decide +kernel
theorem d_9_checkMany_18 : decode cX9_checkMany 18 = .ok (.invokespecial 273, 3) := by decide +kernel
theorem d_9_checkMany_21 : decode cX9_checkMany 21 = .ok (.athrow, 1) := by decide +kernel
theorem d_9_checkMany_22 : decode cX9_checkMany 22 = .ok (.return_, 1) := by decide +kernel
theorem d_9_checkCount_0 : decode cX9_checkCount 0 = .ok (.iload_n 0, 1) := by decide +kernel
theorem d_9_checkCount_1 : decode cX9_checkCount 1 = .ok (.ifCond .lt 10, 3) := by decide +kernel
theorem d_9_checkCount_4 : decode cX9_checkCount 4 = .ok (.iload_n 0, 1) := by decide +kernel
theorem d_9_checkCount_5 : decode cX9_checkCount 5 = .ok (.sipush 9999, 3) := by decide +kernel
theorem d_9_checkCount_8 : decode cX9_checkCount 8 = .ok (.if_icmp .le 14, 3) := by decide +kernel
theorem d_9_checkCount_11 : decode cX9_checkCount 11 = .ok (.new 269, 3) := by decide +kernel
theorem d_9_checkCount_14 : decode cX9_checkCount 14 = .ok (.dup, 1) := by decide +kernel
theorem d_9_checkCount_15 : decode cX9_checkCount 15 = .ok (.ldc_w 274, 3) := by decide +kernel
theorem d_9_checkCount_18 : decode cX9_checkCount 18 = .ok (.invokespecial 273, 3) := by decide +kernel
theorem d_9_checkCount_21 : decode cX9_checkCount 21 = .ok (.athrow, 1) := by decide +kernel
theorem d_9_checkCount_22 : decode cX9_checkCount 22 = .ok (.return_, 1) := by decide +kernel
theorem d_9_checkTextIsValid_0 : decode cX9_checkTextIsValid 0 = .ok (.aload_n 0, 1) := by decide +kernel
theorem d_9_checkTextIsValid_1 : decode cX9_checkTextIsValid 1 = .ok (.getfield 10, 3) := by decide +kernel
theorem d_9_checkTextIsValid_4 : decode cX9_checkTextIsValid 4 = .ok (.invokevirtual 185, 3) := by decide +kernel
theorem d_9_checkTextIsValid_7 : decode cX9_checkTextIsValid 7 = .ok (.iconst (-1), 1) := by decide +kernel
theorem d_9_checkTextIsValid_8 : decode cX9_checkTextIsValid 8 = .ok (.if_icmp .eq 14, 3) := by decide +kernel
theorem d_9_checkTextIsValid_11 : decode cX9_checkTextIsValid 11 = .ok (.new 96, 3) := by decide +kernel
theorem d_9_checkTextIsValid_14 : decode cX9_checkTextIsValid 14 = .ok (.dup, 1) := by decide +kernel
theorem d_9_checkTextIsValid_15 : decode cX9_checkTextIsValid 15 = .ok (.ldc_w 276, 3) := by decide +kernel
theorem d_9_checkTextIsValid_18 : decode cX9_checkTextIsValid 18 = .ok (.invokespecial 100, 3) := by decide +kernel
theorem d_9_checkTextIsValid_21 : decode cX9_checkTextIsValid 21 = .ok (.athrow, 1) := by decide +kernel
theorem d_9_checkTextIsValid_22 : decode cX9_checkTextIsValid 22 = .ok (.return_, 1) := by decide +kernel
theorem d_9_loadWantedPlural_0 : decode cX9_loadWantedPlural 0 = .ok (.aload_n 0, 1) := by decide +kernel
theorem d_9_loadWantedPlural_1 : decode cX9_loadWantedPlural 1 = .ok (.getfield 10, 3) := by decide +kernel
theorem d_9_loadWantedPlural_4 : decode cX9_loadWantedPlural 4 = .ok (.invokevirtual 278, 3) := by decide +kernel
theorem d_9_loadWantedPlural_7 : decode cX9_loadWantedPlural 7 = .ok (.ifCond .ne 14, 3) := by decide +kernel
theorem d_9_loadWantedPlural_10 : decode cX9_loadWantedPlural 10 = .ok (.new 96, 3) := by decide +kernel
theorem d_9_loadWantedPlural_13 : decode cX9_loadWantedPlural 13 = .ok (.dup, 1) := by decide +kernel
theorem d_9_loadWantedPlural_14 : decode cX9_loadWantedPlural 14 = .ok (.ldc_w 281, 3) := by decide +kernel
theorem d_9_loadWantedPlural_17 : decode cX9_loadWantedPlural 17 = .ok (.invokespecial 100, 3) := by decide +kernel
theorem d_9_loadWantedPlural_20 : decode cX9_loadWantedPlural 20 = .ok (.athrow, 1) := by decide +kernel
theorem d_9_loadWantedPlural_21 : decode cX9_loadWantedPlural 21 = .ok (.aload_n 0, 1) := by decide +kernel
theorem d_9_loadWantedPlural_22 : decode cX9_loadWantedPlural 22 = .ok (.getfield 10, 3) := by decide +kernel
theorem d_9_loadWantedPlural_25 : decode cX9_loadWantedPlural 25 = .ok (.aload_n 0, 1) := by decide +kernel
theorem d_9_loadWantedPlural_26 : decode cX9_loadWantedPlural 26 = .ok (.getfield 46, 3) := by decide +kernel
theorem d_9_loadWantedPlural_29 : decode cX9_loadWantedPlural 29 = .ok (.invokevirtual 283, 3) := by decide +kernel
theorem d_9_loadWantedPlural_32 : decode cX9_loadWantedPlural 32 = .ok (.return_, 1) := by decide +kernel
theorem d_9_tryOrders_0 : decode cX9_tryOrders 0 = .ok (.aload_n 0, 1) := by decide +kernel
theorem d_9_tryOrders_1 : decode cX9_tryOrders 1 = .ok (.getfield 33, 3) := by decide +kernel
theorem d_9_tryOrders_4 : decode cX9_tryOrders 4 = .ok (.aload_n 0, 1) := by decide +kernel
theorem d_9_tryOrders_5 : decode cX9_tryOrders 5 = .ok (.getfield 19, 3) := by decide +kernel
theorem d_9_tryOrders_8 : decode cX9_tryOrders 8 = .ok (.invokevirtual 196, 3) := by decide +kernel
theorem d_9_tryOrders_11 : decode cX9_tryOrders 11 = .ok (.aload_n 0, 1) := by decide +kernel
theorem d_9_tryOrders_12 : decode cX9_tryOrders 12 = .ok (.getfield 10, 3) := by decide +kernel
theorem d_9_tryOrders_15 : decode cX9_tryOrders 15 = .ok (.invokevirtual 199, 3) := by decide +kernel
theorem d_9_tryOrders_18 : decode cX9_tryOrders 18 = .ok (.istore_n 1, 1) := by decide +kernel
theorem d_9_tryOrders_19 : decode cX9_tryOrders 19 = .ok (.iconst 0, 1) := by decide +kernel
theorem d_9_tryOrders_20 : decode cX9_tryOrders 20 = .ok (.istore_n 2, 1) := by decide +kernel
theorem d_9_tryOrders_21 : decode cX9_tryOrders 21 = .ok (.iconst 0, 1) := by decide +kernel
theorem d_9_tryOrders_22 : decode cX9_tryOrders 22 = .ok (.istore_n 3, 1) := by decide +kernel
theorem d_9_tryOrders_23 : decode cX9_tryOrders 23 = .ok (.iload_n 3, 1) := by decide +kernel
theorem d_9_tryOrders_24 : decode cX9_tryOrders 24 = .ok (.iload_n 1, 1) := by decide +kernel
theorem d_9_tryOrders_25 : decode cX9_tryOrders 25 = .ok (.if_icmp .ge 38, 3) := by decide +kernel
theorem d_9_tryOrders_28 : decode cX9_tryOrders 28 = .ok (.aload_n 0, 1) := by decide +kernel
theorem d_9_tryOrders_29 : decode cX9_tryOrders 29 = .ok (.getfield 10, 3) := by decide +kernel
theorem d_9_tryOrders_32 : decode cX9_tryOrders 32 = .ok (.iload_n 2, 1) := by decide +kernel
theorem d_9_tryOrders_33 : decode cX9_tryOrders 33 = .ok (.aload_n 0, 1) := by decide +kernel
theorem d_9_tryOrders_34 : decode cX9_tryOrders 34 = .ok (.getfield 39, 3) := by decide +kernel
theorem d_9_tryOrders_37 : decode cX9_tryOrders 37 = .ok (.invokevirtual 286, 3) := by decide +kernel
theorem d_9_tryOrders_40 : decode cX9_tryOrders 40 = .ok (.istore_n 2, 1) := by decide +kernel
theorem d_9_tryOrders_41 : decode cX9_tryOrders 41 = .ok (.aload_n 0, 1) := by decide +kernel
theorem d_9_tryOrders_42 : decode cX9_tryOrders 42 = .ok (.getfield 33, 3) := by decide +kernel
theorem d_9_tryOrders_45 : decode cX9_tryOrders 45 = .ok (.aload_n 0, 1) := by decide +kernel
theorem d_9_tryOrders_46 : decode cX9_tryOrders 46 = .ok (.getfield 39, 3) := by decide +kernel
theorem d_9_tryOrders_49 : decode cX9_tryOrders 49 = .ok (.invokevirtual 290, 3) := by decide +kernel
theorem d_9_tryOrders_52 : decode cX9_tryOrders 52 = .ok (.ifCond .ne 5, 3) := by decide +kernel
theorem d_9_tryOrders_55 : decode cX9_tryOrders 55 = .ok (.iload_n 3, 1) := by decide +kernel
theorem d_9_tryOrders_56 : decode cX9_tryOrders 56 = .ok (.ireturn, 1) := by decide +kernel
theorem d_9_tryOrders_57 : decode cX9_tryOrders 57 = .ok (.iinc 3 1, 3) := by decide +kernel
theorem d_9_tryOrders_60 : decode cX9_tryOrders 60 = .ok (.goto (-37), 3) := by decide +kernel
theorem d_9_tryOrders_63 : decode cX9_tryOrders 63 = .ok (.iconst (-1), 1) := by decide +kernel
theorem d_9_tryOrders_64 : decode cX9_tryOrders 64 = .ok (.ireturn, 1) := by decide +kernel
theorem d_9_collectOrigins_0 : decode cX9_collectOrigins 0 = .ok (.aload_n 0, 1) := by decide +kernel
theorem d_9_collectOrigins_1 : decode cX9_collectOrigins 1 = .ok (.getfield 65, 3) := by decide +kernel
theorem d_9_collectOrigins_4 : decode cX9_collectOrigins 4 = .ok (.invokevirtual 240, 3) := by decide +kernel
theorem d_9_collectOrigins_7 : decode cX9_collectOrigins 7 = .ok (.iconst 0, 1) := by decide +kernel
theorem d_9_collectOrigins_8 : decode cX9_collectOrigins 8 = .ok (.istore_n 1, 1) := by decide +kernel
theorem d_9_collectOrigins_9 : decode cX9_collectOrigins 9 = .ok (.iload_n 1, 1) := by decide +kernel
theorem d_9_collectOrigins_10 : decode cX9_collectOrigins 10 = .ok (.aload_n 0, 1) := by decide +kernel
theorem d_9_collectOrigins_11 : decode cX9_collectOrigins 11 = .ok (.getfield 19, 3) := by decide +kernel
theorem d_9_collectOrigins_14 : decode cX9_collectOrigins 14 = .ok (.getfield 162, 3) := by decide +kernel
theorem d_9_collectOrigins_17 : decode cX9_collectOrigins 17 = .ok (.invokevirtual 165, 3) := by decide +kernel
theorem d_9_collectOrigins_20 : decode cX9_collectOrigins 20 = .ok (.if_icmp .ge 54, 3) := by decide +kernel
theorem d_9_collectOrigins_23 : decode cX9_collectOrigins 23 = .ok (.aload_n 0, 1) := by decide +kernel
theorem d_9_collectOrigins_24 : decode cX9_collectOrigins 24 = .ok (.getfield 19, 3) := by decide +kernel
theorem d_9_collectOrigins_27 : decode cX9_collectOrigins 27 = .ok (.getfield 169, 3) := by decide +kernel
theorem d_9_collectOrigins_30 : decode cX9_collectOrigins 30 = .ok (.iload_n 1, 1) := by decide +kernel
theorem d_9_collectOrigins_31 : decode cX9_collectOrigins 31 = .ok (.aload_n 0, 1) := by decide +kernel
theorem d_9_collectOrigins_32 : decode cX9_collectOrigins 32 = .ok (.getfield 46, 3) := by decide +kernel
theorem d_9_collectOrigins_35 : decode cX9_collectOrigins 35 = .ok (.invokevirtual 294, 3) := by decide +kernel
theorem d_9_collectOrigins_38 : decode cX9_collectOrigins 38 = .ok (.ifCond .eq 30, 3) := by decide +kernel
theorem d_9_collectOrigins_41 : decode cX9_collectOrigins 41 = .ok (.aload_n 0, 1) := by decide +kernel
theorem d_9_collectOrigins_42 : decode cX9_collectOrigins 42 = .ok (.getfield 19, 3) := by decide +kernel
theorem d_9_collectOrigins_45 : decode cX9_collectOrigins 45 = .ok (.getfield 162, 3) := by decide +kernel
theorem d_9_collectOrigins_48 : decode cX9_collectOrigins 48 = .ok (.iload_n 1, 1) := by decide +kernel
theorem d_9_collectOrigins_49 : decode cX9_collectOrigins 49 = .ok (.aload_n 0, 1) := by decide +kernel
theorem d_9_collectOrigins_50 : decode cX9_collectOrigins 50 = .ok (.getfield 53, 3) := by decide +kernel
theorem d_9_collectOrigins_53 : decode cX9_collectOrigins 53 = .ok (.invokevirtual 231, 3) := by decide +kernel
theorem d_9_collectOrigins_56 : decode cX9_collectOrigins 56 = .ok (.aload_n 0, 1) := by decide +kernel
theorem d_9_collectOrigins_57 : decode cX9_collectOrigins 57 = .ok (.getfield 65, 3) := by decide +kernel
theorem d_9_collectOrigins_60 : decode cX9_collectOrigins 60 = .ok (.aload_n 0, 1) := by decide +kernel
theorem d_9_collectOrigins_61 : decode cX9_collectOrigins 61 = .ok (.getfield 53, 3) := by decide +kernel
theorem d_9_collectOrigins_64 : decode cX9_collectOrigins 64 = .ok (.invokevirtual 241, 3) := by decide +kernel
theorem d_9_collectOrigins_67 : decode cX9_collectOrigins 67 = .ok (.pop, 1) := by decide +kernel
theorem d_9_collectOrigins_68 : decode cX9_collectOrigins 68 = .ok (.iinc 1 1, 3) := by decide +kernel
theorem d_9_collectOrigins_71 : decode cX9_collectOrigins 71 = .ok (.goto (-62), 3) := by decide +kernel
theorem d_9_collectOrigins_74 : decode cX9_collectOrigins 74 = .ok (.iconst 0, 1) := by decide +kernel
theorem d_9_collectOrigins_75 : decode cX9_collectOrigins 75 = .ok (.istore_n 1, 1) := by decide +kernel
theorem d_9_collectOrigins_76 : decode cX9_collectOrigins 76 = .ok (.iload_n 1, 1) := by decide +kernel
theorem d_9_collectOrigins_77 : decode cX9_collectOrigins 77 = .ok (.aload_n 0, 1) := by decide +kernel
theorem d_9_collectOrigins_78 : decode cX9_collectOrigins 78 = .ok (.getfield 19, 3) := by decide +kernel
theorem d_9_collectOrigins_81 : decode cX9_collectOrigins 81 = .ok (.getfield 152, 3) := by decide +kernel
theorem d_9_collectOrigins_84 : decode cX9_collectOrigins 84 = .ok (.invokevirtual 161, 3) := by decide +kernel
theorem d_9_collectOrigins_87 : decode cX9_collectOrigins 87 = .ok (.if_icmp .ge 101, 3) := by decide +kernel
theorem d_9_collectOrigins_90 : decode cX9_collectOrigins 90 = .ok (.aload_n 0, 1) := by decide +kernel
theorem d_9_collectOrigins_91 : decode cX9_collectOrigins 91 = .ok (.getfield 53, 3) := by decide +kernel
theorem d_9_collectOrigins_94 : decode cX9_collectOrigins 94 = .ok (.aload_n 0, 1) := by decide +kernel
theorem d_9_collectOrigins_95 : decode cX9_collectOrigins 95 = .ok (.getfield 46, 3) := by decide +kernel
theorem d_9_collectOrigins_98 : decode cX9_collectOrigins 98 = .ok (.invokevirtual 296, 3) := by decide +kernel
theorem d_9_collectOrigins_101 : decode cX9_collectOrigins 101 = .ok (.aload_n 0, 1) := by decide +kernel
theorem d_9_collectOrigins_102 : decode cX9_collectOrigins 102 = .ok (.getfield 19, 3) := by decide +kernel
theorem d_9_collectOrigins_105 : decode cX9_collectOrigins 105 = .ok (.getfield 152, 3) := by decide +kernel
theorem d_9_collectOrigins_108 : decode cX9_collectOrigins 108 = .ok (.iload_n 1, 1) := by decide +kernel
theorem d_9_collectOrigins_109 : decode cX9_collectOrigins 109 = .ok (.aload_n 0, 1) := by decide +kernel
theorem d_9_collectOrigins_110 : decode cX9_collectOrigins 110 = .ok (.getfield 53, 3) := by decide +kernel
theorem d_9_collectOrigins_113 : decode cX9_collectOrigins 113 = .ok (.invokevirtual 298, 3) := by decide +kernel
theorem d_9_collectOrigins_116 : decode cX9_collectOrigins 116 = .ok (.ifCond .eq 66, 3) := by decide +kernel
theorem d_9_collectOrigins_119 : decode cX9_collectOrigins 119 = .ok (.aload_n 0, 1) := by decide +kernel
theorem d_9_collectOrigins_120 : decode cX9_collectOrigins 120 = .ok (.getfield 50, 3) := by decide +kernel
theorem d_9_collectOrigins_123 : decode cX9_collectOrigins 123 = .ok (.aload_n 0, 1) := by decide +kernel
theorem d_9_collectOrigins_124 : decode cX9_collectOrigins 124 = .ok (.getfield 53, 3) := by decide +kernel
theorem d_9_collectOrigins_127 : decode cX9_collectOrigins 127 = .ok (.invokevirtual 296, 3) := by decide +kernel
theorem d_9_collectOrigins_130 : decode cX9_collectOrigins 130 = .ok (.aload_n 0, 1) := by decide +kernel
theorem d_9_collectOrigins_131 : decode cX9_collectOrigins 131 = .ok (.getfield 19, 3) := by decide +kernel
theorem d_9_collectOrigins_134 : decode cX9_collectOrigins 134 = .ok (.aload_n 0, 1) := by decide +kernel
theorem d_9_collectOrigins_135 : decode cX9_collectOrigins 135 = .ok (.getfield 50, 3) := by decide +kernel
theorem d_9_collectOrigins_138 : decode cX9_collectOrigins 138 = .ok (.invokevirtual 301, 3) := by decide +kernel
theorem d_9_collectOrigins_141 : decode cX9_collectOrigins 141 = .ok (.aload_n 0, 1) := by decide +kernel
theorem d_9_collectOrigins_142 : decode cX9_collectOrigins 142 = .ok (.getfield 50, 3) := by decide +kernel
theorem d_9_collectOrigins_145 : decode cX9_collectOrigins 145 = .ok (.aload_n 0, 1) := by decide +kernel
theorem d_9_collectOrigins_146 : decode cX9_collectOrigins 146 = .ok (.getfield 46, 3) := by decide +kernel
theorem d_9_collectOrigins_149 : decode cX9_collectOrigins 149 = .ok (.invokevirtual 251, 3) := by decide +kernel
theorem d_9_collectOrigins_152 : decode cX9_collectOrigins 152 = .ok (.ifCond .eq 30, 3) := by decide +kernel
theorem d_9_collectOrigins_155 : decode cX9_collectOrigins 155 = .ok (.aload_n 0, 1) := by decide +kernel
theorem d_9_collectOrigins_156 : decode cX9_collectOrigins 156 = .ok (.getfield 65, 3) := by decide +kernel
theorem d_9_collectOrigins_159 : decode cX9_collectOrigins 159 = .ok (.aload_n 0, 1) := by decide +kernel
theorem d_9_collectOrigins_160 : decode cX9_collectOrigins 160 = .ok (.getfield 53, 3) := by decide +kernel
theorem d_9_collectOrigins_163 : decode cX9_collectOrigins 163 = .ok (.invokevirtual 234, 3) := by decide +kernel
theorem d_9_collectOrigins_166 : decode cX9_collectOrigins 166 = .ok (.iconst (-1), 1) := by decide +kernel
theorem d_9_collectOrigins_167 : decode cX9_collectOrigins 167 = .ok (.if_icmp .ne 15, 3) := by decide +kernel
theorem d_9_collectOrigins_170 : decode cX9_collectOrigins 170 = .ok (.aload_n 0, 1) := by decide +kernel
theorem d_9_collectOrigins_171 : decode cX9_collectOrigins 171 = .ok (.getfield 65, 3) := by decide +kernel
theorem d_9_collectOrigins_174 : decode cX9_collectOrigins 174 = .ok (.aload_n 0, 1) := by decide +kernel
theorem d_9_collectOrigins_175 : decode cX9_collectOrigins 175 = .ok (.getfield 53, 3) := by decide +kernel
theorem d_9_collectOrigins_178 : decode cX9_collectOrigins 178 = .ok (.invokevirtual 241, 3) := by decide +kernel
theorem d_9_collectOrigins_181 : decode cX9_collectOrigins 181 = .ok (.pop, 1) := by decide +kernel
theorem d_9_collectOrigins_182 : decode cX9_collectOrigins 182 = .ok (.iinc 1 1, 3) := by decide +kernel
theorem d_9_collectOrigins_185 : decode cX9_collectOrigins 185 = .ok (.goto (-109), 3) := by decide +kernel
theorem d_9_collectOrigins_188 : decode cX9_collectOrigins 188 = .ok (.return_, 1) := by decide +kernel
theorem d_9_isSmallLetter_0 : decode cX9_isSmallLetter 0 = .ok (.iload_n 0, 1) := by decide +kernel
theorem d_9_isSmallLetter_1 : decode cX9_isSmallLetter 1 = .ok (.bipush 97, 2) := by decide +kernel
theorem d_9_isSmallLetter_3 : decode cX9_isSmallLetter 3 = .ok (.if_icmp .lt 13, 3) := by decide +kernel
theorem d_9_isSmallLetter_6 : decode cX9_isSmallLetter 6 = .ok (.iload_n 0, 1) := by decide +kernel
theorem d_9_isSmallLetter_7 : decode cX9_isSmallLetter 7 = .ok (.bipush 122, 2) := by decide +kernel
theorem d_9_isSmallLetter_9 : decode cX9_isSmallLetter 9 = .ok (.if_icmp .gt 7, 3) := by decide +kernel
theorem d_9_isSmallLetter_12 : decode cX9_isSmallLetter 12 = .ok (.iconst 1, 1) := by decide +kernel
theorem d_9_isSmallLetter_13 : decode cX9_isSmallLetter 13 = .ok (.goto 4, 3) := by decide +kernel
theorem d_9_isSmallLetter_16 : decode cX9_isSmallLetter 16 = .ok (.iconst 0, 1) := by decide +kernel
theorem d_9_isSmallLetter_17 : decode cX9_isSmallLetter 17 = .ok (.ireturn, 1) := by decide +kernel
theorem d_9_closeGap_0 : decode cX9_closeGap 0 = .ok (.iconst 0, 1) := by decide +kernel
theorem d_9_closeGap_1 : decode cX9_closeGap 1 = .ok (.iload_n 1, 1) := by decide +kernel
theorem d_9_closeGap_2 : decode cX9_closeGap 2 = .ok (.invokestatic 304, 3) := by decide +kernel
theorem d_9_closeGap_5 : decode cX9_closeGap 5 = .ok (.istore_n 2, 1) := by decide +kernel
theorem d_9_closeGap_6 : decode cX9_closeGap 6 = .ok (.iload_n 2, 1) := by decide +kernel
theorem d_9_closeGap_7 : decode cX9_closeGap 7 = .ok (.aload_n 0, 1) := by decide +kernel
theorem d_9_closeGap_8 : decode cX9_closeGap 8 = .ok (.arraylength, 1) := by decide +kernel
theorem d_9_closeGap_9 : decode cX9_closeGap 9 = .ok (.iconst 1, 1) := by decide +kernel
theorem d_9_closeGap_10 : decode cX9_closeGap 10 = .ok (.isub, 1) := by decide +kernel
theorem d_9_closeGap_11 : decode cX9_closeGap 11 = .ok (.if_icmp .ge 17, 3) := by decide +kernel
theorem d_9_closeGap_14 : decode cX9_closeGap 14 = .ok (.aload_n 0, 1) := by decide +kernel
theorem d_9_closeGap_15 : decode cX9_closeGap 15 = .ok (.iload_n 2, 1) := by decide +kernel
theorem d_9_closeGap_16 : decode cX9_closeGap 16 = .ok (.aload_n 0, 1) := by decide +kernel
theorem d_9_closeGap_17 : decode cX9_closeGap 17 = .ok (.iload_n 2, 1) := by decide +kernel
theorem d_9_closeGap_18 : decode cX9_closeGap 18 = .ok (.iconst 1, 1) := by decide +kernel
theorem d_9_closeGap_19 : decode cX9_closeGap 19 = .ok (.iadd, 1) := by decide +kernel
theorem d_9_closeGap_20 : decode cX9_closeGap 20 = .ok (.iaload, 1) := by decide +kernel
theorem d_9_closeGap_21 : decode cX9_closeGap 21 = .ok (.iastore, 1) := by decide +kernel
theorem d_9_closeGap_22 : decode cX9_closeGap 22 = .ok (.iinc 2 1, 3) := by decide +kernel
theorem d_9_closeGap_25 : decode cX9_closeGap 25 = .ok (.goto (-19), 3) := by decide +kernel
theorem d_9_closeGap_28 : decode cX9_closeGap 28 = .ok (.return_, 1) := by decide +kernel
theorem d_9_copyNumbers_0 : decode cX9_copyNumbers 0 = .ok (.aload_n 0, 1) := by decide +kernel
theorem d_9_copyNumbers_1 : decode cX9_copyNumbers 1 = .ok (.iconst 0, 1) := by decide +kernel
theorem d_9_copyNumbers_2 : decode cX9_copyNumbers 2 = .ok (.aload_n 1, 1) := by decide +kernel
theorem d_9_copyNumbers_3 : decode cX9_copyNumbers 3 = .ok (.iconst 0, 1) := by decide +kernel
theorem d_9_copyNumbers_4 : decode cX9_copyNumbers 4 = .ok (.aload_n 0, 1) := by decide +kernel
theorem d_9_copyNumbers_5 : decode cX9_copyNumbers 5 = .ok (.arraylength, 1) := by decide +kernel
theorem d_9_copyNumbers_6 : decode cX9_copyNumbers 6 = .ok (.aload_n 1, 1) := by decide +kernel
theorem d_9_copyNumbers_7 : decode cX9_copyNumbers 7 = .ok (.arraylength, 1) := by decide +kernel
theorem d_9_copyNumbers_8 : decode cX9_copyNumbers 8 = .ok (.invokestatic 310, 3) := by decide +kernel
theorem d_9_copyNumbers_11 : decode cX9_copyNumbers 11 = .ok (.invokestatic 313, 3) := by decide +kernel
theorem d_9_copyNumbers_14 : decode cX9_copyNumbers 14 = .ok (.return_, 1) := by decide +kernel
