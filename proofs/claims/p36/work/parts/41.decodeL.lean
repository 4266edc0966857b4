/-! decode rows of the law -/
theorem d_L_cell_0 : decode cL_cell 0 = .ok (.iload_n 1, 1) := by decide +kernel
theorem d_L_cell_1 : decode cL_cell 1 = .ok (.aload_n 0, 1) := by decide +kernel
theorem d_L_cell_2 : decode cL_cell 2 = .ok (.arraylength, 1) := by decide +kernel
theorem d_L_cell_3 : decode cL_cell 3 = .ok (.if_icmp .ge 9, 3) := by decide +kernel
theorem d_L_cell_6 : decode cL_cell 6 = .ok (.aload_n 0, 1) := by decide +kernel
theorem d_L_cell_7 : decode cL_cell 7 = .ok (.iload_n 1, 1) := by decide +kernel
theorem d_L_cell_8 : decode cL_cell 8 = .ok (.iaload, 1) := by decide +kernel
theorem d_L_cell_9 : decode cL_cell 9 = .ok (.goto 11, 3) := by decide +kernel
theorem d_L_cell_12 : decode cL_cell 12 = .ok (.ldc 7, 2) := by decide +kernel
theorem d_L_cell_14 : decode cL_cell 14 = .ok (.iload_n 1, 1) := by decide +kernel
theorem d_L_cell_15 : decode cL_cell 15 = .ok (.sipush 1889, 3) := by decide +kernel
theorem d_L_cell_18 : decode cL_cell 18 = .ok (.iadd, 1) := by decide +kernel
theorem d_L_cell_19 : decode cL_cell 19 = .ok (.imul, 1) := by decide +kernel
theorem d_L_cell_20 : decode cL_cell 20 = .ok (.ireturn, 1) := by decide +kernel
theorem d_L_up_0 : decode cL_up 0 = .ok (.iload_n 0, 1) := by decide +kernel
theorem d_L_up_1 : decode cL_up 1 = .ok (.ldc 8, 2) := by decide +kernel
theorem d_L_up_3 : decode cL_up 3 = .ok (.iand, 1) := by decide +kernel
theorem d_L_up_4 : decode cL_up 4 = .ok (.iload_n 1, 1) := by decide +kernel
theorem d_L_up_5 : decode cL_up 5 = .ok (.irem, 1) := by decide +kernel
theorem d_L_up_6 : decode cL_up 6 = .ok (.ireturn, 1) := by decide +kernel
theorem d_L_strike_0 : decode cL_strike 0 = .ok (.aload_n 0, 1) := by decide +kernel
theorem d_L_strike_1 : decode cL_strike 1 = .ok (.iload_n 1, 1) := by decide +kernel
theorem d_L_strike_2 : decode cL_strike 2 = .ok (.iload_n 2, 1) := by decide +kernel
theorem d_L_strike_3 : decode cL_strike 3 = .ok (.invokevirtual 9, 3) := by decide +kernel
theorem d_L_strike_6 : decode cL_strike 6 = .ok (.ireturn, 1) := by decide +kernel
theorem d_L_strike_7 : decode cL_strike 7 = .ok (.astore_n 3, 1) := by decide +kernel
theorem d_L_strike_8 : decode cL_strike 8 = .ok (.ldc 17, 2) := by decide +kernel
theorem d_L_strike_10 : decode cL_strike 10 = .ok (.ireturn, 1) := by decide +kernel
theorem d_L_strike_11 : decode cL_strike 11 = .ok (.astore_n 3, 1) := by decide +kernel
theorem d_L_strike_12 : decode cL_strike 12 = .ok (.ldc 20, 2) := by decide +kernel
theorem d_L_strike_14 : decode cL_strike 14 = .ok (.ireturn, 1) := by decide +kernel
theorem d_L_strike_15 : decode cL_strike 15 = .ok (.astore_n 3, 1) := by decide +kernel
theorem d_L_strike_16 : decode cL_strike 16 = .ok (.ldc 23, 2) := by decide +kernel
theorem d_L_strike_18 : decode cL_strike 18 = .ok (.ireturn, 1) := by decide +kernel
theorem d_L_melt_0 : decode cL_melt 0 = .ok (.aload_n 0, 1) := by decide +kernel
theorem d_L_melt_1 : decode cL_melt 1 = .ok (.iload_n 1, 1) := by decide +kernel
theorem d_L_melt_2 : decode cL_melt 2 = .ok (.iload_n 2, 1) := by decide +kernel
theorem d_L_melt_3 : decode cL_melt 3 = .ok (.invokevirtual 24, 3) := by decide +kernel
theorem d_L_melt_6 : decode cL_melt 6 = .ok (.ireturn, 1) := by decide +kernel
theorem d_L_melt_7 : decode cL_melt 7 = .ok (.astore_n 3, 1) := by decide +kernel
theorem d_L_melt_8 : decode cL_melt 8 = .ok (.ldc 17, 2) := by decide +kernel
theorem d_L_melt_10 : decode cL_melt 10 = .ok (.ireturn, 1) := by decide +kernel
theorem d_L_melt_11 : decode cL_melt 11 = .ok (.astore_n 3, 1) := by decide +kernel
theorem d_L_melt_12 : decode cL_melt 12 = .ok (.ldc 20, 2) := by decide +kernel
theorem d_L_melt_14 : decode cL_melt 14 = .ok (.ireturn, 1) := by decide +kernel
theorem d_L_melt_15 : decode cL_melt 15 = .ok (.astore_n 3, 1) := by decide +kernel
theorem d_L_melt_16 : decode cL_melt 16 = .ok (.ldc 23, 2) := by decide +kernel
theorem d_L_melt_18 : decode cL_melt 18 = .ok (.ireturn, 1) := by decide +kernel
theorem d_L_dropDie_0 : decode cL_dropDie 0 = .ok (.aload_n 0, 1) := by decide +kernel
theorem d_L_dropDie_1 : decode cL_dropDie 1 = .ok (.iload_n 1, 1) := by decide +kernel
theorem d_L_dropDie_2 : decode cL_dropDie 2 = .ok (.invokevirtual 27, 3) := by decide +kernel
theorem d_L_dropDie_5 : decode cL_dropDie 5 = .ok (.ireturn, 1) := by decide +kernel
theorem d_L_dropDie_6 : decode cL_dropDie 6 = .ok (.astore_n 2, 1) := by decide +kernel
theorem d_L_dropDie_7 : decode cL_dropDie 7 = .ok (.ldc 17, 2) := by decide +kernel
theorem d_L_dropDie_9 : decode cL_dropDie 9 = .ok (.ireturn, 1) := by decide +kernel
theorem d_L_dropDie_10 : decode cL_dropDie 10 = .ok (.astore_n 2, 1) := by decide +kernel
theorem d_L_dropDie_11 : decode cL_dropDie 11 = .ok (.ldc 20, 2) := by decide +kernel
theorem d_L_dropDie_13 : decode cL_dropDie 13 = .ok (.ireturn, 1) := by decide +kernel
theorem d_L_dropIrregular_0 : decode cL_dropIrregular 0 = .ok (.aload_n 0, 1) := by decide +kernel
theorem d_L_dropIrregular_1 : decode cL_dropIrregular 1 = .ok (.invokevirtual 31, 3) := by decide +kernel
theorem d_L_dropIrregular_4 : decode cL_dropIrregular 4 = .ok (.ireturn, 1) := by decide +kernel
theorem d_L_dropIrregular_5 : decode cL_dropIrregular 5 = .ok (.astore_n 1, 1) := by decide +kernel
theorem d_L_dropIrregular_6 : decode cL_dropIrregular 6 = .ok (.ldc 17, 2) := by decide +kernel
theorem d_L_dropIrregular_8 : decode cL_dropIrregular 8 = .ok (.ireturn, 1) := by decide +kernel
theorem d_L_type_0 : decode cL_type 0 = .ok (.aload_n 0, 1) := by decide +kernel
theorem d_L_type_1 : decode cL_type 1 = .ok (.iload_n 1, 1) := by decide +kernel
theorem d_L_type_2 : decode cL_type 2 = .ok (.i2c, 1) := by decide +kernel
theorem d_L_type_3 : decode cL_type 3 = .ok (.invokevirtual 35, 3) := by decide +kernel
theorem d_L_type_6 : decode cL_type 6 = .ok (.ireturn, 1) := by decide +kernel
theorem d_L_type_7 : decode cL_type 7 = .ok (.astore_n 2, 1) := by decide +kernel
theorem d_L_type_8 : decode cL_type 8 = .ok (.ldc 17, 2) := by decide +kernel
theorem d_L_type_10 : decode cL_type 10 = .ok (.ireturn, 1) := by decide +kernel
theorem d_L_impossible_0 : decode cL_impossible 0 = .ok (.aload_n 0, 1) := by decide +kernel
theorem d_L_impossible_1 : decode cL_impossible 1 = .ok (.invokevirtual 39, 3) := by decide +kernel
theorem d_L_impossible_4 : decode cL_impossible 4 = .ok (.ireturn, 1) := by decide +kernel
theorem d_L_impossible_5 : decode cL_impossible 5 = .ok (.astore_n 1, 1) := by decide +kernel
theorem d_L_impossible_6 : decode cL_impossible 6 = .ok (.ldc 17, 2) := by decide +kernel
theorem d_L_impossible_8 : decode cL_impossible 8 = .ok (.ireturn, 1) := by decide +kernel
theorem d_L_carryOut_0 : decode cL_carryOut 0 = .ok (.aload_n 0, 1) := by decide +kernel
theorem d_L_carryOut_1 : decode cL_carryOut 1 = .ok (.invokevirtual 42, 3) := by decide +kernel
theorem d_L_carryOut_4 : decode cL_carryOut 4 = .ok (.ireturn, 1) := by decide +kernel
theorem d_L_carryOut_5 : decode cL_carryOut 5 = .ok (.astore_n 1, 1) := by decide +kernel
theorem d_L_carryOut_6 : decode cL_carryOut 6 = .ok (.ldc 17, 2) := by decide +kernel
theorem d_L_carryOut_8 : decode cL_carryOut 8 = .ok (.ireturn, 1) := by decide +kernel
theorem d_L_undo_0 : decode cL_undo 0 = .ok (.aload_n 0, 1) := by decide +kernel
theorem d_L_undo_1 : decode cL_undo 1 = .ok (.invokevirtual 45, 3) := by decide +kernel
theorem d_L_undo_4 : decode cL_undo 4 = .ok (.ireturn, 1) := by decide +kernel
theorem d_L_undo_5 : decode cL_undo 5 = .ok (.astore_n 1, 1) := by decide +kernel
theorem d_L_undo_6 : decode cL_undo 6 = .ok (.ldc 17, 2) := by decide +kernel
theorem d_L_undo_8 : decode cL_undo 8 = .ok (.ireturn, 1) := by decide +kernel
theorem d_L_restore_0 : decode cL_restore 0 = .ok (.aload_n 0, 1) := by decide +kernel
theorem d_L_restore_1 : decode cL_restore 1 = .ok (.invokevirtual 48, 3) := by decide +kernel
theorem d_L_restore_4 : decode cL_restore 4 = .ok (.ireturn, 1) := by decide +kernel
theorem d_L_restore_5 : decode cL_restore 5 = .ok (.astore_n 1, 1) := by decide +kernel
theorem d_L_restore_6 : decode cL_restore 6 = .ok (.ldc 17, 2) := by decide +kernel
theorem d_L_restore_8 : decode cL_restore 8 = .ok (.ireturn, 1) := by decide +kernel
theorem d_L_letters_0 : decode cL_letters 0 = .ok (.aload_n 0, 1) := by decide +kernel
theorem d_L_letters_1 : decode cL_letters 1 = .ok (.iload_n 1, 1) := by decide +kernel
theorem d_L_letters_2 : decode cL_letters 2 = .ok (.invokevirtual 51, 3) := by decide +kernel
theorem d_L_letters_5 : decode cL_letters 5 = .ok (.ireturn, 1) := by decide +kernel
theorem d_L_letters_6 : decode cL_letters 6 = .ok (.astore_n 2, 1) := by decide +kernel
theorem d_L_letters_7 : decode cL_letters 7 = .ok (.ldc 17, 2) := by decide +kernel
theorem d_L_letters_9 : decode cL_letters 9 = .ok (.ireturn, 1) := by decide +kernel
theorem d_L_pluralLetters_0 : decode cL_pluralLetters 0 = .ok (.aload_n 0, 1) := by decide +kernel
theorem d_L_pluralLetters_1 : decode cL_pluralLetters 1 = .ok (.iload_n 1, 1) := by decide +kernel
theorem d_L_pluralLetters_2 : decode cL_pluralLetters 2 = .ok (.invokevirtual 54, 3) := by decide +kernel
theorem d_L_pluralLetters_5 : decode cL_pluralLetters 5 = .ok (.ireturn, 1) := by decide +kernel
theorem d_L_pluralLetters_6 : decode cL_pluralLetters 6 = .ok (.astore_n 2, 1) := by decide +kernel
theorem d_L_pluralLetters_7 : decode cL_pluralLetters 7 = .ok (.ldc 17, 2) := by decide +kernel
theorem d_L_pluralLetters_9 : decode cL_pluralLetters 9 = .ok (.ireturn, 1) := by decide +kernel
theorem d_L_letter_0 : decode cL_letter 0 = .ok (.aload_n 0, 1) := by decide +kernel
theorem d_L_letter_1 : decode cL_letter 1 = .ok (.iload_n 1, 1) := by decide +kernel
theorem d_L_letter_2 : decode cL_letter 2 = .ok (.iload_n 2, 1) := by decide +kernel
theorem d_L_letter_3 : decode cL_letter 3 = .ok (.invokevirtual 57, 3) := by decide +kernel
theorem d_L_letter_6 : decode cL_letter 6 = .ok (.ireturn, 1) := by decide +kernel
theorem d_L_letter_7 : decode cL_letter 7 = .ok (.astore_n 3, 1) := by decide +kernel
theorem d_L_letter_8 : decode cL_letter 8 = .ok (.ldc 17, 2) := by decide +kernel
theorem d_L_letter_10 : decode cL_letter 10 = .ok (.ireturn, 1) := by decide +kernel
theorem d_L_counted_0 : decode cL_counted 0 = .ok (.aload_n 0, 1) := by decide +kernel
theorem d_L_counted_1 : decode cL_counted 1 = .ok (.iload_n 1, 1) := by decide +kernel
theorem d_L_counted_2 : decode cL_counted 2 = .ok (.iload_n 2, 1) := by decide +kernel
theorem d_L_counted_3 : decode cL_counted 3 = .ok (.iload_n 3, 1) := by decide +kernel
theorem d_L_counted_4 : decode cL_counted 4 = .ok (.invokevirtual 61, 3) := by decide +kernel
theorem d_L_counted_7 : decode cL_counted 7 = .ok (.ireturn, 1) := by decide +kernel
theorem d_L_counted_8 : decode cL_counted 8 = .ok (.astore 4, 2) := by decide +kernel
theorem d_L_counted_10 : decode cL_counted 10 = .ok (.ldc 17, 2) := by decide +kernel
theorem d_L_counted_12 : decode cL_counted 12 = .ok (.ireturn, 1) := by decide +kernel
theorem d_L_counted_13 : decode cL_counted 13 = .ok (.astore 4, 2) := by decide +kernel
theorem d_L_counted_15 : decode cL_counted 15 = .ok (.ldc 20, 2) := by decide +kernel
theorem d_L_counted_17 : decode cL_counted 17 = .ok (.ireturn, 1) := by decide +kernel
theorem d_L_isIrregular_0 : decode cL_isIrregular 0 = .ok (.aload_n 0, 1) := by decide +kernel
theorem d_L_isIrregular_1 : decode cL_isIrregular 1 = .ok (.iload_n 1, 1) := by decide +kernel
theorem d_L_isIrregular_2 : decode cL_isIrregular 2 = .ok (.invokevirtual 65, 3) := by decide +kernel
theorem d_L_isIrregular_5 : decode cL_isIrregular 5 = .ok (.ifCond .eq 7, 3) := by decide +kernel
theorem d_L_isIrregular_8 : decode cL_isIrregular 8 = .ok (.iconst 1, 1) := by decide +kernel
theorem d_L_isIrregular_9 : decode cL_isIrregular 9 = .ok (.goto 4, 3) := by decide +kernel
theorem d_L_isIrregular_12 : decode cL_isIrregular 12 = .ok (.iconst 0, 1) := by decide +kernel
theorem d_L_isIrregular_13 : decode cL_isIrregular 13 = .ok (.ireturn, 1) := by decide +kernel
theorem d_L_isIrregular_14 : decode cL_isIrregular 14 = .ok (.astore_n 2, 1) := by decide +kernel
theorem d_L_isIrregular_15 : decode cL_isIrregular 15 = .ok (.ldc 17, 2) := by decide +kernel
theorem d_L_isIrregular_17 : decode cL_isIrregular 17 = .ok (.ireturn, 1) := by decide +kernel
theorem d_L_dieFor_0 : decode cL_dieFor 0 = .ok (.aload_n 0, 1) := by decide +kernel
theorem d_L_dieFor_1 : decode cL_dieFor 1 = .ok (.iload_n 1, 1) := by decide +kernel
theorem d_L_dieFor_2 : decode cL_dieFor 2 = .ok (.invokevirtual 69, 3) := by decide +kernel
theorem d_L_dieFor_5 : decode cL_dieFor 5 = .ok (.ireturn, 1) := by decide +kernel
theorem d_L_dieFor_6 : decode cL_dieFor 6 = .ok (.astore_n 2, 1) := by decide +kernel
theorem d_L_dieFor_7 : decode cL_dieFor 7 = .ok (.ldc 17, 2) := by decide +kernel
theorem d_L_dieFor_9 : decode cL_dieFor 9 = .ok (.ireturn, 1) := by decide +kernel
theorem d_L_recall_0 : decode cL_recall 0 = .ok (.aload_n 0, 1) := by decide +kernel
theorem d_L_recall_1 : decode cL_recall 1 = .ok (.invokevirtual 72, 3) := by decide +kernel
theorem d_L_recall_4 : decode cL_recall 4 = .ok (.ireturn, 1) := by decide +kernel
theorem d_L_recall_5 : decode cL_recall 5 = .ok (.astore_n 1, 1) := by decide +kernel
theorem d_L_recall_6 : decode cL_recall 6 = .ok (.ldc 17, 2) := by decide +kernel
theorem d_L_recall_8 : decode cL_recall 8 = .ok (.ireturn, 1) := by decide +kernel
theorem d_L_reversed_0 : decode cL_reversed 0 = .ok (.aload_n 0, 1) := by decide +kernel
theorem d_L_reversed_1 : decode cL_reversed 1 = .ok (.invokevirtual 75, 3) := by decide +kernel
theorem d_L_reversed_4 : decode cL_reversed 4 = .ok (.ireturn, 1) := by decide +kernel
theorem d_L_reversed_5 : decode cL_reversed 5 = .ok (.astore_n 1, 1) := by decide +kernel
theorem d_L_reversed_6 : decode cL_reversed 6 = .ok (.ldc 17, 2) := by decide +kernel
theorem d_L_reversed_8 : decode cL_reversed 8 = .ok (.ireturn, 1) := by decide +kernel
theorem d_L_possible_0 : decode cL_possible 0 = .ok (.aload_n 0, 1) := by decide +kernel
theorem d_L_possible_1 : decode cL_possible 1 = .ok (.invokevirtual 78, 3) := by decide +kernel
theorem d_L_possible_4 : decode cL_possible 4 = .ok (.ireturn, 1) := by decide +kernel
theorem d_L_possible_5 : decode cL_possible 5 = .ok (.astore_n 1, 1) := by decide +kernel
theorem d_L_possible_6 : decode cL_possible 6 = .ok (.ldc 17, 2) := by decide +kernel
theorem d_L_possible_8 : decode cL_possible 8 = .ok (.ireturn, 1) := by decide +kernel
theorem d_L_fitsOf_0 : decode cL_fitsOf 0 = .ok (.aload_n 0, 1) := by decide +kernel
theorem d_L_fitsOf_1 : decode cL_fitsOf 1 = .ok (.iload_n 1, 1) := by decide +kernel
theorem d_L_fitsOf_2 : decode cL_fitsOf 2 = .ok (.invokevirtual 81, 3) := by decide +kernel
theorem d_L_fitsOf_5 : decode cL_fitsOf 5 = .ok (.ireturn, 1) := by decide +kernel
theorem d_L_fitsOf_6 : decode cL_fitsOf 6 = .ok (.astore_n 2, 1) := by decide +kernel
theorem d_L_fitsOf_7 : decode cL_fitsOf 7 = .ok (.ldc 17, 2) := by decide +kernel
theorem d_L_fitsOf_9 : decode cL_fitsOf 9 = .ok (.ireturn, 1) := by decide +kernel
theorem d_L_coins_0 : decode cL_coins 0 = .ok (.aload_n 0, 1) := by decide +kernel
theorem d_L_coins_1 : decode cL_coins 1 = .ok (.iload_n 1, 1) := by decide +kernel
theorem d_L_coins_2 : decode cL_coins 2 = .ok (.invokevirtual 84, 3) := by decide +kernel
theorem d_L_coins_5 : decode cL_coins 5 = .ok (.ireturn, 1) := by decide +kernel
theorem d_L_coins_6 : decode cL_coins 6 = .ok (.astore_n 2, 1) := by decide +kernel
theorem d_L_coins_7 : decode cL_coins 7 = .ok (.ldc 17, 2) := by decide +kernel
theorem d_L_coins_9 : decode cL_coins 9 = .ok (.ireturn, 1) := by decide +kernel
theorem d_L_other_0 : decode cL_other 0 = .ok (.iload_n 0, 1) := by decide +kernel
theorem d_L_other_1 : decode cL_other 1 = .ok (.bipush 97, 2) := by decide +kernel
theorem d_L_other_3 : decode cL_other 3 = .ok (.if_icmp .ne 8, 3) := by decide +kernel
theorem d_L_other_6 : decode cL_other 6 = .ok (.bipush 101, 2) := by decide +kernel
theorem d_L_other_8 : decode cL_other 8 = .ok (.goto 48, 3) := by decide +kernel
theorem d_L_other_11 : decode cL_other 11 = .ok (.iload_n 0, 1) := by decide +kernel
theorem d_L_other_12 : decode cL_other 12 = .ok (.bipush 101, 2) := by decide +kernel
theorem d_L_other_14 : decode cL_other 14 = .ok (.if_icmp .ne 8, 3) := by decide +kernel
theorem d_L_other_17 : decode cL_other 17 = .ok (.bipush 105, 2) := by decide +kernel
theorem d_L_other_19 : decode cL_other 19 = .ok (.goto 37, 3) := by decide +kernel
theorem d_L_other_22 : decode cL_other 22 = .ok (.iload_n 0, 1) := by decide +kernel
theorem d_L_other_23 : decode cL_other 23 = .ok (.bipush 105, 2) := by decide +kernel
theorem d_L_other_25 : decode cL_other 25 = .ok (.if_icmp .ne 8, 3) := by decide +kernel
theorem d_L_other_28 : decode cL_other 28 = .ok (.bipush 111, 2) := by decide +kernel
theorem d_L_other_30 : decode cL_other 30 = .ok (.goto 26, 3) := by decide +kernel
theorem d_L_other_33 : decode cL_other 33 = .ok (.iload_n 0, 1) := by decide +kernel
theorem d_L_other_34 : decode cL_other 34 = .ok (.bipush 111, 2) := by decide +kernel
theorem d_L_other_36 : decode cL_other 36 = .ok (.if_icmp .ne 8, 3) := by decide +kernel
theorem d_L_other_39 : decode cL_other 39 = .ok (.bipush 117, 2) := by decide +kernel
theorem d_L_other_41 : decode cL_other 41 = .ok (.goto 15, 3) := by decide +kernel
theorem d_L_other_44 : decode cL_other 44 = .ok (.iload_n 0, 1) := by decide +kernel
theorem d_L_other_45 : decode cL_other 45 = .ok (.bipush 117, 2) := by decide +kernel
theorem d_L_other_47 : decode cL_other 47 = .ok (.if_icmp .ne 8, 3) := by decide +kernel
theorem d_L_other_50 : decode cL_other 50 = .ok (.bipush 97, 2) := by decide +kernel
theorem d_L_other_52 : decode cL_other 52 = .ok (.goto 4, 3) := by decide +kernel
theorem d_L_other_55 : decode cL_other 55 = .ok (.iload_n 0, 1) := by decide +kernel
theorem d_L_other_56 : decode cL_other 56 = .ok (.ireturn, 1) := by decide +kernel
theorem d_L_both_0 : decode cL_both 0 = .ok (.aload_n 0, 1) := by decide +kernel
theorem d_L_both_1 : decode cL_both 1 = .ok (.iload_n 2, 1) := by decide +kernel
theorem d_L_both_2 : decode cL_both 2 = .ok (.invokestatic 87, 3) := by decide +kernel
theorem d_L_both_5 : decode cL_both 5 = .ok (.aload_n 1, 1) := by decide +kernel
theorem d_L_both_6 : decode cL_both 6 = .ok (.iload_n 2, 1) := by decide +kernel
theorem d_L_both_7 : decode cL_both 7 = .ok (.invokestatic 92, 3) := by decide +kernel
theorem d_L_both_10 : decode cL_both 10 = .ok (.invokestatic 87, 3) := by decide +kernel
theorem d_L_both_13 : decode cL_both 13 = .ok (.if_icmp .ne 7, 3) := by decide +kernel
theorem d_L_both_16 : decode cL_both 16 = .ok (.iconst 1, 1) := by decide +kernel
theorem d_L_both_17 : decode cL_both 17 = .ok (.goto 4, 3) := by decide +kernel
theorem d_L_both_20 : decode cL_both 20 = .ok (.iconst 0, 1) := by decide +kernel
theorem d_L_both_21 : decode cL_both 21 = .ok (.ireturn, 1) := by decide +kernel
theorem d_L_pick_0 : decode cL_pick 0 = .ok (.iload_n 0, 1) := by decide +kernel
theorem d_L_pick_1 : decode cL_pick 1 = .ok (.bipush 9, 2) := by decide +kernel
theorem d_L_pick_3 : decode cL_pick 3 = .ok (.invokestatic 95, 3) := by decide +kernel
theorem d_L_pick_6 : decode cL_pick 6 = .ok (.istore_n 1, 1) := by decide +kernel
theorem d_L_pick_7 : decode cL_pick 7 = .ok (.iload_n 1, 1) := by decide +kernel
theorem d_L_pick_8 : decode cL_pick 8 = .ok (.ifCond .ne 8, 3) := by decide +kernel
theorem d_L_pick_11 : decode cL_pick 11 = .ok (.bipush 97, 2) := by decide +kernel
theorem d_L_pick_13 : decode cL_pick 13 = .ok (.goto 77, 3) := by decide +kernel
theorem d_L_pick_16 : decode cL_pick 16 = .ok (.iload_n 1, 1) := by decide +kernel
theorem d_L_pick_17 : decode cL_pick 17 = .ok (.iconst 1, 1) := by decide +kernel
theorem d_L_pick_18 : decode cL_pick 18 = .ok (.if_icmp .ne 8, 3) := by decide +kernel
theorem d_L_pick_21 : decode cL_pick 21 = .ok (.bipush 98, 2) := by decide +kernel
theorem d_L_pick_23 : decode cL_pick 23 = .ok (.goto 67, 3) := by decide +kernel
theorem d_L_pick_26 : decode cL_pick 26 = .ok (.iload_n 1, 1) := by decide +kernel
theorem d_L_pick_27 : decode cL_pick 27 = .ok (.iconst 2, 1) := by decide +kernel
theorem d_L_pick_28 : decode cL_pick 28 = .ok (.if_icmp .ne 8, 3) := by decide +kernel
theorem d_L_pick_31 : decode cL_pick 31 = .ok (.bipush 101, 2) := by decide +kernel
theorem d_L_pick_33 : decode cL_pick 33 = .ok (.goto 57, 3) := by decide +kernel
theorem d_L_pick_36 : decode cL_pick 36 = .ok (.iload_n 1, 1) := by decide +kernel
theorem d_L_pick_37 : decode cL_pick 37 = .ok (.iconst 3, 1) := by decide +kernel
theorem d_L_pick_38 : decode cL_pick 38 = .ok (.if_icmp .ne 8, 3) := by decide +kernel
theorem d_L_pick_41 : decode cL_pick 41 = .ok (.bipush 115, 2) := by decide +kernel
theorem d_L_pick_43 : decode cL_pick 43 = .ok (.goto 47, 3) := by decide +kernel
theorem d_L_pick_46 : decode cL_pick 46 = .ok (.iload_n 1, 1) := by decide +kernel
theorem d_L_pick_47 : decode cL_pick 47 = .ok (.iconst 4, 1) := by decide +kernel
theorem d_L_pick_48 : decode cL_pick 48 = .ok (.if_icmp .ne 8, 3) := by decide +kernel
theorem d_L_pick_51 : decode cL_pick 51 = .ok (.bipush 121, 2) := by decide +kernel
theorem d_L_pick_53 : decode cL_pick 53 = .ok (.goto 37, 3) := by decide +kernel
theorem d_L_pick_56 : decode cL_pick 56 = .ok (.iload_n 1, 1) := by decide +kernel
theorem d_L_pick_57 : decode cL_pick 57 = .ok (.iconst 5, 1) := by decide +kernel
theorem d_L_pick_58 : decode cL_pick 58 = .ok (.if_icmp .ne 8, 3) := by decide +kernel
theorem d_L_pick_61 : decode cL_pick 61 = .ok (.bipush 111, 2) := by decide +kernel
theorem d_L_pick_63 : decode cL_pick 63 = .ok (.goto 27, 3) := by decide +kernel
theorem d_L_pick_66 : decode cL_pick 66 = .ok (.iload_n 1, 1) := by decide +kernel
theorem d_L_pick_67 : decode cL_pick 67 = .ok (.bipush 6, 2) := by decide +kernel
theorem d_L_pick_69 : decode cL_pick 69 = .ok (.if_icmp .ne 8, 3) := by decide +kernel
theorem d_L_pick_72 : decode cL_pick 72 = .ok (.bipush 116, 2) := by decide +kernel
theorem d_L_pick_74 : decode cL_pick 74 = .ok (.goto 16, 3) := by decide +kernel
theorem d_L_pick_77 : decode cL_pick 77 = .ok (.iload_n 1, 1) := by decide +kernel
theorem d_L_pick_78 : decode cL_pick 78 = .ok (.bipush 7, 2) := by decide +kernel
theorem d_L_pick_80 : decode cL_pick 80 = .ok (.if_icmp .ne 8, 3) := by decide +kernel
theorem d_L_pick_83 : decode cL_pick 83 = .ok (.bipush 117, 2) := by decide +kernel
theorem d_L_pick_85 : decode cL_pick 85 = .ok (.goto 5, 3) := by decide +kernel
theorem d_L_pick_88 : decode cL_pick 88 = .ok (.bipush 105, 2) := by decide +kernel
theorem d_L_pick_90 : decode cL_pick 90 = .ok (.ireturn, 1) := by decide +kernel
theorem d_L_word_0 : decode cL_word 0 = .ok (.iconst 1, 1) := by decide +kernel
theorem d_L_word_1 : decode cL_word 1 = .ok (.istore 4, 2) := by decide +kernel
theorem d_L_word_3 : decode cL_word 3 = .ok (.iconst 0, 1) := by decide +kernel
theorem d_L_word_4 : decode cL_word 4 = .ok (.istore 5, 2) := by decide +kernel
theorem d_L_word_6 : decode cL_word 6 = .ok (.iload 5, 2) := by decide +kernel
theorem d_L_word_8 : decode cL_word 8 = .ok (.iload_n 3, 1) := by decide +kernel
theorem d_L_word_9 : decode cL_word 9 = .ok (.if_icmp .ge 45, 3) := by decide +kernel
theorem d_L_word_12 : decode cL_word 12 = .ok (.iload 4, 2) := by decide +kernel
theorem d_L_word_14 : decode cL_word 14 = .ok (.ifCond .eq 31, 3) := by decide +kernel
theorem d_L_word_17 : decode cL_word 17 = .ok (.aload_n 0, 1) := by decide +kernel
theorem d_L_word_18 : decode cL_word 18 = .ok (.aload_n 1, 1) := by decide +kernel
theorem d_L_word_19 : decode cL_word 19 = .ok (.iload_n 2, 1) := by decide +kernel
theorem d_L_word_20 : decode cL_word 20 = .ok (.iload 5, 2) := by decide +kernel
theorem d_L_word_22 : decode cL_word 22 = .ok (.iconst 1, 1) := by decide +kernel
theorem d_L_word_23 : decode cL_word 23 = .ok (.iadd, 1) := by decide +kernel
theorem d_L_word_24 : decode cL_word 24 = .ok (.ishr, 1) := by decide +kernel
theorem d_L_word_25 : decode cL_word 25 = .ok (.iload_n 2, 1) := by decide +kernel
theorem d_L_word_26 : decode cL_word 26 = .ok (.iconst 2, 1) := by decide +kernel
theorem d_L_word_27 : decode cL_word 27 = .ok (.iload 5, 2) := by decide +kernel
theorem d_L_word_29 : decode cL_word 29 = .ok (.imul, 1) := by decide +kernel
theorem d_L_word_30 : decode cL_word 30 = .ok (.ishr, 1) := by decide +kernel
theorem d_L_word_31 : decode cL_word 31 = .ok (.ixor, 1) := by decide +kernel
theorem d_L_word_32 : decode cL_word 32 = .ok (.invokestatic 98, 3) := by decide +kernel
theorem d_L_word_35 : decode cL_word 35 = .ok (.invokestatic 101, 3) := by decide +kernel
theorem d_L_word_38 : decode cL_word 38 = .ok (.ifCond .eq 7, 3) := by decide +kernel
theorem d_L_word_41 : decode cL_word 41 = .ok (.iconst 1, 1) := by decide +kernel
theorem d_L_word_42 : decode cL_word 42 = .ok (.goto 4, 3) := by decide +kernel
theorem d_L_word_45 : decode cL_word 45 = .ok (.iconst 0, 1) := by decide +kernel
theorem d_L_word_46 : decode cL_word 46 = .ok (.istore 4, 2) := by decide +kernel
theorem d_L_word_48 : decode cL_word 48 = .ok (.iinc 5 1, 3) := by decide +kernel
theorem d_L_word_51 : decode cL_word 51 = .ok (.goto (-45), 3) := by decide +kernel
theorem d_L_word_54 : decode cL_word 54 = .ok (.iload 4, 2) := by decide +kernel
theorem d_L_word_56 : decode cL_word 56 = .ok (.ireturn, 1) := by decide +kernel
theorem d_L_empty_0 : decode cL_empty 0 = .ok (.aload_n 0, 1) := by decide +kernel
theorem d_L_empty_1 : decode cL_empty 1 = .ok (.invokevirtual 105, 3) := by decide +kernel
theorem d_L_empty_4 : decode cL_empty 4 = .ok (.ifCond .lt 14, 3) := by decide +kernel
theorem d_L_empty_7 : decode cL_empty 7 = .ok (.aload_n 1, 1) := by decide +kernel
theorem d_L_empty_8 : decode cL_empty 8 = .ok (.invokevirtual 105, 3) := by decide +kernel
theorem d_L_empty_11 : decode cL_empty 11 = .ok (.ifCond .lt 7, 3) := by decide +kernel
theorem d_L_empty_14 : decode cL_empty 14 = .ok (.iconst 1, 1) := by decide +kernel
theorem d_L_empty_15 : decode cL_empty 15 = .ok (.goto 4, 3) := by decide +kernel
theorem d_L_empty_18 : decode cL_empty 18 = .ok (.iconst 0, 1) := by decide +kernel
theorem d_L_empty_19 : decode cL_empty 19 = .ok (.ireturn, 1) := by decide +kernel
theorem d_L_isStep_0 : decode cL_isStep 0 = .ok (.iload_n 2, 1) := by decide +kernel
theorem d_L_isStep_1 : decode cL_isStep 1 = .ok (.iconst 4, 1) := by decide +kernel
theorem d_L_isStep_2 : decode cL_isStep 2 = .ok (.ishr, 1) := by decide +kernel
theorem d_L_isStep_3 : decode cL_isStep 3 = .ok (.istore 4, 2) := by decide +kernel
theorem d_L_isStep_5 : decode cL_isStep 5 = .ok (.aload_n 0, 1) := by decide +kernel
theorem d_L_isStep_6 : decode cL_isStep 6 = .ok (.invokevirtual 108, 3) := by decide +kernel
theorem d_L_isStep_9 : decode cL_isStep 9 = .ok (.istore 5, 2) := by decide +kernel
theorem d_L_isStep_11 : decode cL_isStep 11 = .ok (.aload_n 0, 1) := by decide +kernel
theorem d_L_isStep_12 : decode cL_isStep 12 = .ok (.invokevirtual 111, 3) := by decide +kernel
theorem d_L_isStep_15 : decode cL_isStep 15 = .ok (.istore 6, 2) := by decide +kernel
theorem d_L_isStep_17 : decode cL_isStep 17 = .ok (.aload_n 0, 1) := by decide +kernel
theorem d_L_isStep_18 : decode cL_isStep 18 = .ok (.invokevirtual 114, 3) := by decide +kernel
theorem d_L_isStep_21 : decode cL_isStep 21 = .ok (.istore 7, 2) := by decide +kernel
theorem d_L_isStep_23 : decode cL_isStep 23 = .ok (.iload_n 3, 1) := by decide +kernel
theorem d_L_isStep_24 : decode cL_isStep 24 = .ok (.iload 5, 2) := by decide +kernel
theorem d_L_isStep_26 : decode cL_isStep 26 = .ok (.iconst 1, 1) := by decide +kernel
theorem d_L_isStep_27 : decode cL_isStep 27 = .ok (.iadd, 1) := by decide +kernel
theorem d_L_isStep_28 : decode cL_isStep 28 = .ok (.invokestatic 95, 3) := by decide +kernel
theorem d_L_isStep_31 : decode cL_isStep 31 = .ok (.istore 8, 2) := by decide +kernel
theorem d_L_isStep_33 : decode cL_isStep 33 = .ok (.iload 8, 2) := by decide +kernel
theorem d_L_isStep_35 : decode cL_isStep 35 = .ok (.iload 5, 2) := by decide +kernel
theorem d_L_isStep_37 : decode cL_isStep 37 = .ok (.if_icmp .ge 12, 3) := by decide +kernel
theorem d_L_isStep_40 : decode cL_isStep 40 = .ok (.aload_n 0, 1) := by decide +kernel
theorem d_L_isStep_41 : decode cL_isStep 41 = .ok (.iload 8, 2) := by decide +kernel
theorem d_L_isStep_43 : decode cL_isStep 43 = .ok (.invokestatic 117, 3) := by decide +kernel
theorem d_L_isStep_46 : decode cL_isStep 46 = .ok (.goto 4, 3) := by decide +kernel
theorem d_L_isStep_49 : decode cL_isStep 49 = .ok (.iconst 0, 1) := by decide +kernel
theorem d_L_isStep_50 : decode cL_isStep 50 = .ok (.istore 9, 2) := by decide +kernel
theorem d_L_isStep_52 : decode cL_isStep 52 = .ok (.iconst 1, 1) := by decide +kernel
theorem d_L_isStep_53 : decode cL_isStep 53 = .ok (.iload 4, 2) := by decide +kernel
theorem d_L_isStep_55 : decode cL_isStep 55 = .ok (.bipush 99, 2) := by decide +kernel
theorem d_L_isStep_57 : decode cL_isStep 57 = .ok (.invokestatic 95, 3) := by decide +kernel
theorem d_L_isStep_60 : decode cL_isStep 60 = .ok (.iadd, 1) := by decide +kernel
theorem d_L_isStep_61 : decode cL_isStep 61 = .ok (.istore 10, 2) := by decide +kernel
theorem d_L_isStep_63 : decode cL_isStep 63 = .ok (.iload_n 2, 1) := by decide +kernel
theorem d_L_isStep_64 : decode cL_isStep 64 = .ok (.bipush 20, 2) := by decide +kernel
theorem d_L_isStep_66 : decode cL_isStep 66 = .ok (.invokestatic 95, 3) := by decide +kernel
theorem d_L_isStep_69 : decode cL_isStep 69 = .ok (.tableswitch 699 0 14 #[75, 75, 75, 75, 171, 171, 256, 303, 336, 353, 353, 537, 537, 638, 682], 75) := by decide +kernel
theorem d_L_isStep_144 : decode cL_isStep 144 = .ok (.aload_n 0, 1) := by decide +kernel
theorem d_L_isStep_145 : decode cL_isStep 145 = .ok (.iload 8, 2) := by decide +kernel
theorem d_L_isStep_147 : decode cL_isStep 147 = .ok (.iload 10, 2) := by decide +kernel
theorem d_L_isStep_149 : decode cL_isStep 149 = .ok (.invokestatic 120, 3) := by decide +kernel
theorem d_L_isStep_152 : decode cL_isStep 152 = .ok (.istore 11, 2) := by decide +kernel
theorem d_L_isStep_154 : decode cL_isStep 154 = .ok (.iload 11, 2) := by decide +kernel
theorem d_L_isStep_156 : decode cL_isStep 156 = .ok (.aload_n 1, 1) := by decide +kernel
theorem d_L_isStep_157 : decode cL_isStep 157 = .ok (.iload 8, 2) := by decide +kernel
theorem d_L_isStep_159 : decode cL_isStep 159 = .ok (.iload 10, 2) := by decide +kernel
theorem d_L_isStep_161 : decode cL_isStep 161 = .ok (.invokestatic 120, 3) := by decide +kernel
theorem d_L_isStep_164 : decode cL_isStep 164 = .ok (.if_icmp .ne 74, 3) := by decide +kernel
theorem d_L_isStep_167 : decode cL_isStep 167 = .ok (.iload 11, 2) := by decide +kernel
theorem d_L_isStep_169 : decode cL_isStep 169 = .ok (.ldc 17, 2) := by decide +kernel
theorem d_L_isStep_171 : decode cL_isStep 171 = .ok (.if_icmp .ne 13, 3) := by decide +kernel
theorem d_L_isStep_174 : decode cL_isStep 174 = .ok (.iload 8, 2) := by decide +kernel
theorem d_L_isStep_176 : decode cL_isStep 176 = .ok (.iload 5, 2) := by decide +kernel
theorem d_L_isStep_178 : decode cL_isStep 178 = .ok (.if_icmp .ne 60, 3) := by decide +kernel
theorem d_L_isStep_181 : decode cL_isStep 181 = .ok (.goto 53, 3) := by decide +kernel
theorem d_L_isStep_184 : decode cL_isStep 184 = .ok (.iload 11, 2) := by decide +kernel
theorem d_L_isStep_186 : decode cL_isStep 186 = .ok (.ldc 23, 2) := by decide +kernel
theorem d_L_isStep_188 : decode cL_isStep 188 = .ok (.if_icmp .ne 15, 3) := by decide +kernel
theorem d_L_isStep_191 : decode cL_isStep 191 = .ok (.aload_n 0, 1) := by decide +kernel
theorem d_L_isStep_192 : decode cL_isStep 192 = .ok (.invokevirtual 123, 3) := by decide +kernel
theorem d_L_isStep_195 : decode cL_isStep 195 = .ok (.bipush 30, 2) := by decide +kernel
theorem d_L_isStep_197 : decode cL_isStep 197 = .ok (.if_icmp .ne 41, 3) := by decide +kernel
theorem d_L_isStep_200 : decode cL_isStep 200 = .ok (.goto 34, 3) := by decide +kernel
theorem d_L_isStep_203 : decode cL_isStep 203 = .ok (.iload 11, 2) := by decide +kernel
theorem d_L_isStep_205 : decode cL_isStep 205 = .ok (.iload 9, 2) := by decide +kernel
theorem d_L_isStep_207 : decode cL_isStep 207 = .ok (.iload 10, 2) := by decide +kernel
theorem d_L_isStep_209 : decode cL_isStep 209 = .ok (.iadd, 1) := by decide +kernel
theorem d_L_isStep_210 : decode cL_isStep 210 = .ok (.if_icmp .ne 28, 3) := by decide +kernel
theorem d_L_isStep_213 : decode cL_isStep 213 = .ok (.aload_n 0, 1) := by decide +kernel
theorem d_L_isStep_214 : decode cL_isStep 214 = .ok (.invokevirtual 126, 3) := by decide +kernel
theorem d_L_isStep_217 : decode cL_isStep 217 = .ok (.iload 6, 2) := by decide +kernel
theorem d_L_isStep_219 : decode cL_isStep 219 = .ok (.iload 10, 2) := by decide +kernel
theorem d_L_isStep_221 : decode cL_isStep 221 = .ok (.iadd, 1) := by decide +kernel
theorem d_L_isStep_222 : decode cL_isStep 222 = .ok (.if_icmp .ne 16, 3) := by decide +kernel
theorem d_L_isStep_225 : decode cL_isStep 225 = .ok (.aload_n 0, 1) := by decide +kernel
theorem d_L_isStep_226 : decode cL_isStep 226 = .ok (.invokevirtual 114, 3) := by decide +kernel
theorem d_L_isStep_229 : decode cL_isStep 229 = .ok (.iload 7, 2) := by decide +kernel
theorem d_L_isStep_231 : decode cL_isStep 231 = .ok (.if_icmp .ne 7, 3) := by decide +kernel
theorem d_L_isStep_234 : decode cL_isStep 234 = .ok (.iconst 1, 1) := by decide +kernel
theorem d_L_isStep_235 : decode cL_isStep 235 = .ok (.goto 4, 3) := by decide +kernel
theorem d_L_isStep_238 : decode cL_isStep 238 = .ok (.iconst 0, 1) := by decide +kernel
theorem d_L_isStep_239 : decode cL_isStep 239 = .ok (.ireturn, 1) := by decide +kernel
theorem d_L_isStep_240 : decode cL_isStep 240 = .ok (.aload_n 0, 1) := by decide +kernel
theorem d_L_isStep_241 : decode cL_isStep 241 = .ok (.iload 8, 2) := by decide +kernel
theorem d_L_isStep_243 : decode cL_isStep 243 = .ok (.iload 10, 2) := by decide +kernel
theorem d_L_isStep_245 : decode cL_isStep 245 = .ok (.invokestatic 129, 3) := by decide +kernel
theorem d_L_isStep_248 : decode cL_isStep 248 = .ok (.istore 11, 2) := by decide +kernel
theorem d_L_isStep_250 : decode cL_isStep 250 = .ok (.iload 11, 2) := by decide +kernel
theorem d_L_isStep_252 : decode cL_isStep 252 = .ok (.aload_n 1, 1) := by decide +kernel
theorem d_L_isStep_253 : decode cL_isStep 253 = .ok (.iload 8, 2) := by decide +kernel
theorem d_L_isStep_255 : decode cL_isStep 255 = .ok (.iload 10, 2) := by decide +kernel
theorem d_L_isStep_257 : decode cL_isStep 257 = .ok (.invokestatic 129, 3) := by decide +kernel
theorem d_L_isStep_260 : decode cL_isStep 260 = .ok (.if_icmp .ne 63, 3) := by decide +kernel
theorem d_L_isStep_263 : decode cL_isStep 263 = .ok (.iload 11, 2) := by decide +kernel
theorem d_L_isStep_265 : decode cL_isStep 265 = .ok (.ldc 17, 2) := by decide +kernel
theorem d_L_isStep_267 : decode cL_isStep 267 = .ok (.if_icmp .ne 13, 3) := by decide +kernel
theorem d_L_isStep_270 : decode cL_isStep 270 = .ok (.iload 8, 2) := by decide +kernel
theorem d_L_isStep_272 : decode cL_isStep 272 = .ok (.iload 5, 2) := by decide +kernel
theorem d_L_isStep_274 : decode cL_isStep 274 = .ok (.if_icmp .ne 49, 3) := by decide +kernel
theorem d_L_isStep_277 : decode cL_isStep 277 = .ok (.goto 42, 3) := by decide +kernel
theorem d_L_isStep_280 : decode cL_isStep 280 = .ok (.iload 11, 2) := by decide +kernel
theorem d_L_isStep_282 : decode cL_isStep 282 = .ok (.ldc 23, 2) := by decide +kernel
theorem d_L_isStep_284 : decode cL_isStep 284 = .ok (.if_icmp .ne 13, 3) := by decide +kernel
theorem d_L_isStep_287 : decode cL_isStep 287 = .ok (.iload 9, 2) := by decide +kernel
theorem d_L_isStep_289 : decode cL_isStep 289 = .ok (.iload 10, 2) := by decide +kernel
theorem d_L_isStep_291 : decode cL_isStep 291 = .ok (.if_icmp .ge 32, 3) := by decide +kernel
theorem d_L_isStep_294 : decode cL_isStep 294 = .ok (.goto 25, 3) := by decide +kernel
theorem d_L_isStep_297 : decode cL_isStep 297 = .ok (.iload 11, 2) := by decide +kernel
theorem d_L_isStep_299 : decode cL_isStep 299 = .ok (.iload 9, 2) := by decide +kernel
theorem d_L_isStep_301 : decode cL_isStep 301 = .ok (.iload 10, 2) := by decide +kernel
theorem d_L_isStep_303 : decode cL_isStep 303 = .ok (.isub, 1) := by decide +kernel
theorem d_L_isStep_304 : decode cL_isStep 304 = .ok (.if_icmp .ne 19, 3) := by decide +kernel
theorem d_L_isStep_307 : decode cL_isStep 307 = .ok (.aload_n 0, 1) := by decide +kernel
theorem d_L_isStep_308 : decode cL_isStep 308 = .ok (.invokevirtual 126, 3) := by decide +kernel
theorem d_L_isStep_311 : decode cL_isStep 311 = .ok (.iload 6, 2) := by decide +kernel
theorem d_L_isStep_313 : decode cL_isStep 313 = .ok (.iload 10, 2) := by decide +kernel
theorem d_L_isStep_315 : decode cL_isStep 315 = .ok (.isub, 1) := by decide +kernel
theorem d_L_isStep_316 : decode cL_isStep 316 = .ok (.if_icmp .ne 7, 3) := by decide +kernel
theorem d_L_isStep_319 : decode cL_isStep 319 = .ok (.iconst 1, 1) := by decide +kernel
theorem d_L_isStep_320 : decode cL_isStep 320 = .ok (.goto 4, 3) := by decide +kernel
theorem d_L_isStep_323 : decode cL_isStep 323 = .ok (.iconst 0, 1) := by decide +kernel
theorem d_L_isStep_324 : decode cL_isStep 324 = .ok (.ireturn, 1) := by decide +kernel
theorem d_L_isStep_325 : decode cL_isStep 325 = .ok (.aload_n 0, 1) := by decide +kernel
theorem d_L_isStep_326 : decode cL_isStep 326 = .ok (.invokevirtual 131, 3) := by decide +kernel
theorem d_L_isStep_329 : decode cL_isStep 329 = .ok (.istore 11, 2) := by decide +kernel
theorem d_L_isStep_331 : decode cL_isStep 331 = .ok (.iload 11, 2) := by decide +kernel
theorem d_L_isStep_333 : decode cL_isStep 333 = .ok (.aload_n 1, 1) := by decide +kernel
theorem d_L_isStep_334 : decode cL_isStep 334 = .ok (.invokevirtual 131, 3) := by decide +kernel
theorem d_L_isStep_337 : decode cL_isStep 337 = .ok (.if_icmp .ne 33, 3) := by decide +kernel
theorem d_L_isStep_340 : decode cL_isStep 340 = .ok (.iload 11, 2) := by decide +kernel
theorem d_L_isStep_342 : decode cL_isStep 342 = .ok (.iload 7, 2) := by decide +kernel
theorem d_L_isStep_344 : decode cL_isStep 344 = .ok (.if_icmp .ne 26, 3) := by decide +kernel
theorem d_L_isStep_347 : decode cL_isStep 347 = .ok (.aload_n 0, 1) := by decide +kernel
theorem d_L_isStep_348 : decode cL_isStep 348 = .ok (.invokevirtual 114, 3) := by decide +kernel
theorem d_L_isStep_351 : decode cL_isStep 351 = .ok (.ifCond .ne 19, 3) := by decide +kernel
theorem d_L_isStep_354 : decode cL_isStep 354 = .ok (.aload_n 0, 1) := by decide +kernel
theorem d_L_isStep_355 : decode cL_isStep 355 = .ok (.invokevirtual 111, 3) := by decide +kernel
theorem d_L_isStep_358 : decode cL_isStep 358 = .ok (.iload 6, 2) := by decide +kernel
theorem d_L_isStep_360 : decode cL_isStep 360 = .ok (.iload 11, 2) := by decide +kernel
theorem d_L_isStep_362 : decode cL_isStep 362 = .ok (.isub, 1) := by decide +kernel
theorem d_L_isStep_363 : decode cL_isStep 363 = .ok (.if_icmp .ne 7, 3) := by decide +kernel
theorem d_L_isStep_366 : decode cL_isStep 366 = .ok (.iconst 1, 1) := by decide +kernel
theorem d_L_isStep_367 : decode cL_isStep 367 = .ok (.goto 4, 3) := by decide +kernel
theorem d_L_isStep_370 : decode cL_isStep 370 = .ok (.iconst 0, 1) := by decide +kernel
theorem d_L_isStep_371 : decode cL_isStep 371 = .ok (.ireturn, 1) := by decide +kernel
theorem d_L_isStep_372 : decode cL_isStep 372 = .ok (.iload_n 3, 1) := by decide +kernel
theorem d_L_isStep_373 : decode cL_isStep 373 = .ok (.aload_n 0, 1) := by decide +kernel
theorem d_L_isStep_374 : decode cL_isStep 374 = .ok (.invokevirtual 134, 3) := by decide +kernel
theorem d_L_isStep_377 : decode cL_isStep 377 = .ok (.iconst 1, 1) := by decide +kernel
theorem d_L_isStep_378 : decode cL_isStep 378 = .ok (.iadd, 1) := by decide +kernel
theorem d_L_isStep_379 : decode cL_isStep 379 = .ok (.invokestatic 95, 3) := by decide +kernel
theorem d_L_isStep_382 : decode cL_isStep 382 = .ok (.istore 11, 2) := by decide +kernel
theorem d_L_isStep_384 : decode cL_isStep 384 = .ok (.aload_n 0, 1) := by decide +kernel
theorem d_L_isStep_385 : decode cL_isStep 385 = .ok (.iload 11, 2) := by decide +kernel
theorem d_L_isStep_387 : decode cL_isStep 387 = .ok (.invokestatic 137, 3) := by decide +kernel
theorem d_L_isStep_390 : decode cL_isStep 390 = .ok (.aload_n 1, 1) := by decide +kernel
theorem d_L_isStep_391 : decode cL_isStep 391 = .ok (.iload 11, 2) := by decide +kernel
theorem d_L_isStep_393 : decode cL_isStep 393 = .ok (.invokestatic 137, 3) := by decide +kernel
theorem d_L_isStep_396 : decode cL_isStep 396 = .ok (.if_icmp .ne 7, 3) := by decide +kernel
theorem d_L_isStep_399 : decode cL_isStep 399 = .ok (.iconst 1, 1) := by decide +kernel
theorem d_L_isStep_400 : decode cL_isStep 400 = .ok (.goto 4, 3) := by decide +kernel
theorem d_L_isStep_403 : decode cL_isStep 403 = .ok (.iconst 0, 1) := by decide +kernel
theorem d_L_isStep_404 : decode cL_isStep 404 = .ok (.ireturn, 1) := by decide +kernel
theorem d_L_isStep_405 : decode cL_isStep 405 = .ok (.aload_n 0, 1) := by decide +kernel
theorem d_L_isStep_406 : decode cL_isStep 406 = .ok (.invokestatic 139, 3) := by decide +kernel
theorem d_L_isStep_409 : decode cL_isStep 409 = .ok (.aload_n 1, 1) := by decide +kernel
theorem d_L_isStep_410 : decode cL_isStep 410 = .ok (.invokestatic 139, 3) := by decide +kernel
theorem d_L_isStep_413 : decode cL_isStep 413 = .ok (.if_icmp .ne 7, 3) := by decide +kernel
theorem d_L_isStep_416 : decode cL_isStep 416 = .ok (.iconst 1, 1) := by decide +kernel
theorem d_L_isStep_417 : decode cL_isStep 417 = .ok (.goto 4, 3) := by decide +kernel
theorem d_L_isStep_420 : decode cL_isStep 420 = .ok (.iconst 0, 1) := by decide +kernel
theorem d_L_isStep_421 : decode cL_isStep 421 = .ok (.ireturn, 1) := by decide +kernel
theorem d_L_isStep_422 : decode cL_isStep 422 = .ok (.iload_n 2, 1) := by decide +kernel
theorem d_L_isStep_423 : decode cL_isStep 423 = .ok (.iconst 3, 1) := by decide +kernel
theorem d_L_isStep_424 : decode cL_isStep 424 = .ok (.ishr, 1) := by decide +kernel
theorem d_L_isStep_425 : decode cL_isStep 425 = .ok (.iconst 3, 1) := by decide +kernel
theorem d_L_isStep_426 : decode cL_isStep 426 = .ok (.invokestatic 95, 3) := by decide +kernel
theorem d_L_isStep_429 : decode cL_isStep 429 = .ok (.istore 11, 2) := by decide +kernel
theorem d_L_isStep_431 : decode cL_isStep 431 = .ok (.aload_n 0, 1) := by decide +kernel
theorem d_L_isStep_432 : decode cL_isStep 432 = .ok (.invokevirtual 134, 3) := by decide +kernel
theorem d_L_isStep_435 : decode cL_isStep 435 = .ok (.istore 12, 2) := by decide +kernel
theorem d_L_isStep_437 : decode cL_isStep 437 = .ok (.aload_n 0, 1) := by decide +kernel
theorem d_L_isStep_438 : decode cL_isStep 438 = .ok (.aload_n 1, 1) := by decide +kernel
theorem d_L_isStep_439 : decode cL_isStep 439 = .ok (.invokestatic 142, 3) := by decide +kernel
theorem d_L_isStep_442 : decode cL_isStep 442 = .ok (.ifCond .eq 85, 3) := by decide +kernel
theorem d_L_isStep_445 : decode cL_isStep 445 = .ok (.aload_n 0, 1) := by decide +kernel
theorem d_L_isStep_446 : decode cL_isStep 446 = .ok (.aload_n 1, 1) := by decide +kernel
theorem d_L_isStep_447 : decode cL_isStep 447 = .ok (.bipush 42, 2) := by decide +kernel
theorem d_L_isStep_449 : decode cL_isStep 449 = .ok (.invokestatic 101, 3) := by decide +kernel
theorem d_L_isStep_452 : decode cL_isStep 452 = .ok (.ifCond .eq 75, 3) := by decide +kernel
theorem d_L_isStep_455 : decode cL_isStep 455 = .ok (.iload 11, 2) := by decide +kernel
theorem d_L_isStep_457 : decode cL_isStep 457 = .ok (.ifCond .eq 24, 3) := by decide +kernel
theorem d_L_isStep_460 : decode cL_isStep 460 = .ok (.aload_n 0, 1) := by decide +kernel
theorem d_L_isStep_461 : decode cL_isStep 461 = .ok (.aload_n 1, 1) := by decide +kernel
theorem d_L_isStep_462 : decode cL_isStep 462 = .ok (.iload 11, 2) := by decide +kernel
theorem d_L_isStep_464 : decode cL_isStep 464 = .ok (.iconst 1, 1) := by decide +kernel
theorem d_L_isStep_465 : decode cL_isStep 465 = .ok (.if_icmp .ne 8, 3) := by decide +kernel
theorem d_L_isStep_468 : decode cL_isStep 468 = .ok (.bipush 33, 2) := by decide +kernel
theorem d_L_isStep_470 : decode cL_isStep 470 = .ok (.goto 5, 3) := by decide +kernel
theorem d_L_isStep_473 : decode cL_isStep 473 = .ok (.bipush 63, 2) := by decide +kernel
theorem d_L_isStep_475 : decode cL_isStep 475 = .ok (.invokestatic 101, 3) := by decide +kernel
theorem d_L_isStep_478 : decode cL_isStep 478 = .ok (.ifCond .eq 49, 3) := by decide +kernel
theorem d_L_isStep_481 : decode cL_isStep 481 = .ok (.aload_n 0, 1) := by decide +kernel
theorem d_L_isStep_482 : decode cL_isStep 482 = .ok (.aload_n 1, 1) := by decide +kernel
theorem d_L_isStep_483 : decode cL_isStep 483 = .ok (.iload_n 3, 1) := by decide +kernel
theorem d_L_isStep_484 : decode cL_isStep 484 = .ok (.iload_n 3, 1) := by decide +kernel
theorem d_L_isStep_485 : decode cL_isStep 485 = .ok (.iconst 3, 1) := by decide +kernel
theorem d_L_isStep_486 : decode cL_isStep 486 = .ok (.invokestatic 95, 3) := by decide +kernel
theorem d_L_isStep_489 : decode cL_isStep 489 = .ok (.invokestatic 146, 3) := by decide +kernel
theorem d_L_isStep_492 : decode cL_isStep 492 = .ok (.ifCond .eq 35, 3) := by decide +kernel
theorem d_L_isStep_495 : decode cL_isStep 495 = .ok (.aload_n 0, 1) := by decide +kernel
theorem d_L_isStep_496 : decode cL_isStep 496 = .ok (.aload_n 1, 1) := by decide +kernel
theorem d_L_isStep_497 : decode cL_isStep 497 = .ok (.bipush 62, 2) := by decide +kernel
theorem d_L_isStep_499 : decode cL_isStep 499 = .ok (.invokestatic 101, 3) := by decide +kernel
theorem d_L_isStep_502 : decode cL_isStep 502 = .ok (.ifCond .eq 25, 3) := by decide +kernel
theorem d_L_isStep_505 : decode cL_isStep 505 = .ok (.aload_n 0, 1) := by decide +kernel
theorem d_L_isStep_506 : decode cL_isStep 506 = .ok (.aload_n 1, 1) := by decide +kernel
theorem d_L_isStep_507 : decode cL_isStep 507 = .ok (.iload 4, 2) := by decide +kernel
theorem d_L_isStep_509 : decode cL_isStep 509 = .ok (.iconst 1, 1) := by decide +kernel
theorem d_L_isStep_510 : decode cL_isStep 510 = .ok (.iload 4, 2) := by decide +kernel
theorem d_L_isStep_512 : decode cL_isStep 512 = .ok (.iconst 3, 1) := by decide +kernel
theorem d_L_isStep_513 : decode cL_isStep 513 = .ok (.invokestatic 95, 3) := by decide +kernel
theorem d_L_isStep_516 : decode cL_isStep 516 = .ok (.iadd, 1) := by decide +kernel
theorem d_L_isStep_517 : decode cL_isStep 517 = .ok (.invokestatic 146, 3) := by decide +kernel
theorem d_L_isStep_520 : decode cL_isStep 520 = .ok (.ifCond .eq 7, 3) := by decide +kernel
theorem d_L_isStep_523 : decode cL_isStep 523 = .ok (.iconst 1, 1) := by decide +kernel
theorem d_L_isStep_524 : decode cL_isStep 524 = .ok (.goto 4, 3) := by decide +kernel
theorem d_L_isStep_527 : decode cL_isStep 527 = .ok (.iconst 0, 1) := by decide +kernel
theorem d_L_isStep_528 : decode cL_isStep 528 = .ok (.istore 13, 2) := by decide +kernel
theorem d_L_isStep_530 : decode cL_isStep 530 = .ok (.aload_n 0, 1) := by decide +kernel
theorem d_L_isStep_531 : decode cL_isStep 531 = .ok (.invokestatic 150, 3) := by decide +kernel
theorem d_L_isStep_534 : decode cL_isStep 534 = .ok (.istore 14, 2) := by decide +kernel
theorem d_L_isStep_536 : decode cL_isStep 536 = .ok (.iload 13, 2) := by decide +kernel
theorem d_L_isStep_538 : decode cL_isStep 538 = .ok (.ifCond .eq 66, 3) := by decide +kernel
theorem d_L_isStep_541 : decode cL_isStep 541 = .ok (.iload 14, 2) := by decide +kernel
theorem d_L_isStep_543 : decode cL_isStep 543 = .ok (.aload_n 1, 1) := by decide +kernel
theorem d_L_isStep_544 : decode cL_isStep 544 = .ok (.invokestatic 150, 3) := by decide +kernel
theorem d_L_isStep_547 : decode cL_isStep 547 = .ok (.if_icmp .ne 57, 3) := by decide +kernel
theorem d_L_isStep_550 : decode cL_isStep 550 = .ok (.iload 14, 2) := by decide +kernel
theorem d_L_isStep_552 : decode cL_isStep 552 = .ok (.ldc 17, 2) := by decide +kernel
theorem d_L_isStep_554 : decode cL_isStep 554 = .ok (.if_icmp .ne 7, 3) := by decide +kernel
theorem d_L_isStep_557 : decode cL_isStep 557 = .ok (.iconst 1, 1) := by decide +kernel
theorem d_L_isStep_558 : decode cL_isStep 558 = .ok (.goto 4, 3) := by decide +kernel
theorem d_L_isStep_561 : decode cL_isStep 561 = .ok (.iconst 0, 1) := by decide +kernel
theorem d_L_isStep_562 : decode cL_isStep 562 = .ok (.iload 12, 2) := by decide +kernel
theorem d_L_isStep_564 : decode cL_isStep 564 = .ok (.bipush 12, 2) := by decide +kernel
theorem d_L_isStep_566 : decode cL_isStep 566 = .ok (.if_icmp .ne 7, 3) := by decide +kernel
theorem d_L_isStep_569 : decode cL_isStep 569 = .ok (.iconst 1, 1) := by decide +kernel
theorem d_L_isStep_570 : decode cL_isStep 570 = .ok (.goto 4, 3) := by decide +kernel
theorem d_L_isStep_573 : decode cL_isStep 573 = .ok (.iconst 0, 1) := by decide +kernel
theorem d_L_isStep_574 : decode cL_isStep 574 = .ok (.if_icmp .ne 30, 3) := by decide +kernel
theorem d_L_isStep_577 : decode cL_isStep 577 = .ok (.aload_n 0, 1) := by decide +kernel
theorem d_L_isStep_578 : decode cL_isStep 578 = .ok (.invokevirtual 134, 3) := by decide +kernel
theorem d_L_isStep_581 : decode cL_isStep 581 = .ok (.iload 12, 2) := by decide +kernel
theorem d_L_isStep_583 : decode cL_isStep 583 = .ok (.bipush 12, 2) := by decide +kernel
theorem d_L_isStep_585 : decode cL_isStep 585 = .ok (.if_icmp .ne 8, 3) := by decide +kernel
theorem d_L_isStep_588 : decode cL_isStep 588 = .ok (.bipush 12, 2) := by decide +kernel
theorem d_L_isStep_590 : decode cL_isStep 590 = .ok (.goto 7, 3) := by decide +kernel
theorem d_L_isStep_593 : decode cL_isStep 593 = .ok (.iload 12, 2) := by decide +kernel
theorem d_L_isStep_595 : decode cL_isStep 595 = .ok (.iconst 1, 1) := by decide +kernel
theorem d_L_isStep_596 : decode cL_isStep 596 = .ok (.iadd, 1) := by decide +kernel
theorem d_L_isStep_597 : decode cL_isStep 597 = .ok (.if_icmp .ne 7, 3) := by decide +kernel
theorem d_L_isStep_600 : decode cL_isStep 600 = .ok (.iconst 1, 1) := by decide +kernel
theorem d_L_isStep_601 : decode cL_isStep 601 = .ok (.goto 4, 3) := by decide +kernel
theorem d_L_isStep_604 : decode cL_isStep 604 = .ok (.iconst 0, 1) := by decide +kernel
theorem d_L_isStep_605 : decode cL_isStep 605 = .ok (.ireturn, 1) := by decide +kernel
theorem d_L_isStep_606 : decode cL_isStep 606 = .ok (.aload_n 0, 1) := by decide +kernel
theorem d_L_isStep_607 : decode cL_isStep 607 = .ok (.aload_n 1, 1) := by decide +kernel
theorem d_L_isStep_608 : decode cL_isStep 608 = .ok (.invokestatic 142, 3) := by decide +kernel
theorem d_L_isStep_611 : decode cL_isStep 611 = .ok (.ifCond .eq 51, 3) := by decide +kernel
theorem d_L_isStep_614 : decode cL_isStep 614 = .ok (.aload_n 0, 1) := by decide +kernel
theorem d_L_isStep_615 : decode cL_isStep 615 = .ok (.aload_n 1, 1) := by decide +kernel
theorem d_L_isStep_616 : decode cL_isStep 616 = .ok (.iload_n 3, 1) := by decide +kernel
theorem d_L_isStep_617 : decode cL_isStep 617 = .ok (.iconst 1, 1) := by decide +kernel
theorem d_L_isStep_618 : decode cL_isStep 618 = .ok (.iload_n 3, 1) := by decide +kernel
theorem d_L_isStep_619 : decode cL_isStep 619 = .ok (.iconst 4, 1) := by decide +kernel
theorem d_L_isStep_620 : decode cL_isStep 620 = .ok (.invokestatic 95, 3) := by decide +kernel
theorem d_L_isStep_623 : decode cL_isStep 623 = .ok (.iadd, 1) := by decide +kernel
theorem d_L_isStep_624 : decode cL_isStep 624 = .ok (.invokestatic 146, 3) := by decide +kernel
theorem d_L_isStep_627 : decode cL_isStep 627 = .ok (.ifCond .eq 35, 3) := by decide +kernel
theorem d_L_isStep_630 : decode cL_isStep 630 = .ok (.aload_n 0, 1) := by decide +kernel
theorem d_L_isStep_631 : decode cL_isStep 631 = .ok (.aload_n 1, 1) := by decide +kernel
theorem d_L_isStep_632 : decode cL_isStep 632 = .ok (.bipush 61, 2) := by decide +kernel
theorem d_L_isStep_634 : decode cL_isStep 634 = .ok (.invokestatic 101, 3) := by decide +kernel
theorem d_L_isStep_637 : decode cL_isStep 637 = .ok (.ifCond .eq 25, 3) := by decide +kernel
theorem d_L_isStep_640 : decode cL_isStep 640 = .ok (.aload_n 0, 1) := by decide +kernel
theorem d_L_isStep_641 : decode cL_isStep 641 = .ok (.aload_n 1, 1) := by decide +kernel
theorem d_L_isStep_642 : decode cL_isStep 642 = .ok (.iload 4, 2) := by decide +kernel
theorem d_L_isStep_644 : decode cL_isStep 644 = .ok (.iconst 1, 1) := by decide +kernel
theorem d_L_isStep_645 : decode cL_isStep 645 = .ok (.iload 4, 2) := by decide +kernel
theorem d_L_isStep_647 : decode cL_isStep 647 = .ok (.iconst 5, 1) := by decide +kernel
theorem d_L_isStep_648 : decode cL_isStep 648 = .ok (.invokestatic 95, 3) := by decide +kernel
theorem d_L_isStep_651 : decode cL_isStep 651 = .ok (.iadd, 1) := by decide +kernel
theorem d_L_isStep_652 : decode cL_isStep 652 = .ok (.invokestatic 146, 3) := by decide +kernel
theorem d_L_isStep_655 : decode cL_isStep 655 = .ok (.ifCond .eq 7, 3) := by decide +kernel
theorem d_L_isStep_658 : decode cL_isStep 658 = .ok (.iconst 1, 1) := by decide +kernel
theorem d_L_isStep_659 : decode cL_isStep 659 = .ok (.goto 4, 3) := by decide +kernel
theorem d_L_isStep_662 : decode cL_isStep 662 = .ok (.iconst 0, 1) := by decide +kernel
theorem d_L_isStep_663 : decode cL_isStep 663 = .ok (.istore 11, 2) := by decide +kernel
theorem d_L_isStep_665 : decode cL_isStep 665 = .ok (.iload 11, 2) := by decide +kernel
theorem d_L_isStep_667 : decode cL_isStep 667 = .ok (.ifCond .eq 38, 3) := by decide +kernel
theorem d_L_isStep_670 : decode cL_isStep 670 = .ok (.aload_n 0, 1) := by decide +kernel
theorem d_L_isStep_671 : decode cL_isStep 671 = .ok (.invokestatic 152, 3) := by decide +kernel
theorem d_L_isStep_674 : decode cL_isStep 674 = .ok (.aload_n 1, 1) := by decide +kernel
theorem d_L_isStep_675 : decode cL_isStep 675 = .ok (.invokestatic 152, 3) := by decide +kernel
theorem d_L_isStep_678 : decode cL_isStep 678 = .ok (.if_icmp .ne 27, 3) := by decide +kernel
theorem d_L_isStep_681 : decode cL_isStep 681 = .ok (.aload_n 0, 1) := by decide +kernel
theorem d_L_isStep_682 : decode cL_isStep 682 = .ok (.invokestatic 150, 3) := by decide +kernel
theorem d_L_isStep_685 : decode cL_isStep 685 = .ok (.aload_n 1, 1) := by decide +kernel
theorem d_L_isStep_686 : decode cL_isStep 686 = .ok (.invokestatic 150, 3) := by decide +kernel
theorem d_L_isStep_689 : decode cL_isStep 689 = .ok (.if_icmp .ne 16, 3) := by decide +kernel
theorem d_L_isStep_692 : decode cL_isStep 692 = .ok (.aload_n 0, 1) := by decide +kernel
theorem d_L_isStep_693 : decode cL_isStep 693 = .ok (.invokevirtual 108, 3) := by decide +kernel
theorem d_L_isStep_696 : decode cL_isStep 696 = .ok (.iload 5, 2) := by decide +kernel
theorem d_L_isStep_698 : decode cL_isStep 698 = .ok (.if_icmp .ne 7, 3) := by decide +kernel
theorem d_L_isStep_701 : decode cL_isStep 701 = .ok (.iconst 1, 1) := by decide +kernel
theorem d_L_isStep_702 : decode cL_isStep 702 = .ok (.goto 4, 3) := by decide +kernel
theorem d_L_isStep_705 : decode cL_isStep 705 = .ok (.iconst 0, 1) := by decide +kernel
theorem d_L_isStep_706 : decode cL_isStep 706 = .ok (.ireturn, 1) := by decide +kernel
theorem d_L_isStep_707 : decode cL_isStep 707 = .ok (.iload_n 3, 1) := by decide +kernel
theorem d_L_isStep_708 : decode cL_isStep 708 = .ok (.iconst 2, 1) := by decide +kernel
theorem d_L_isStep_709 : decode cL_isStep 709 = .ok (.invokestatic 95, 3) := by decide +kernel
theorem d_L_isStep_712 : decode cL_isStep 712 = .ok (.ifCond .ne 22, 3) := by decide +kernel
theorem d_L_isStep_715 : decode cL_isStep 715 = .ok (.aload_n 0, 1) := by decide +kernel
theorem d_L_isStep_716 : decode cL_isStep 716 = .ok (.invokevirtual 155, 3) := by decide +kernel
theorem d_L_isStep_719 : decode cL_isStep 719 = .ok (.aload_n 1, 1) := by decide +kernel
theorem d_L_isStep_720 : decode cL_isStep 720 = .ok (.invokevirtual 155, 3) := by decide +kernel
theorem d_L_isStep_723 : decode cL_isStep 723 = .ok (.if_icmp .ne 7, 3) := by decide +kernel
theorem d_L_isStep_726 : decode cL_isStep 726 = .ok (.iconst 1, 1) := by decide +kernel
theorem d_L_isStep_727 : decode cL_isStep 727 = .ok (.goto 23, 3) := by decide +kernel
theorem d_L_isStep_730 : decode cL_isStep 730 = .ok (.iconst 0, 1) := by decide +kernel
theorem d_L_isStep_731 : decode cL_isStep 731 = .ok (.goto 19, 3) := by decide +kernel
theorem d_L_isStep_734 : decode cL_isStep 734 = .ok (.aload_n 0, 1) := by decide +kernel
theorem d_L_isStep_735 : decode cL_isStep 735 = .ok (.invokestatic 158, 3) := by decide +kernel
theorem d_L_isStep_738 : decode cL_isStep 738 = .ok (.aload_n 1, 1) := by decide +kernel
theorem d_L_isStep_739 : decode cL_isStep 739 = .ok (.invokestatic 158, 3) := by decide +kernel
theorem d_L_isStep_742 : decode cL_isStep 742 = .ok (.if_icmp .ne 7, 3) := by decide +kernel
theorem d_L_isStep_745 : decode cL_isStep 745 = .ok (.iconst 1, 1) := by decide +kernel
theorem d_L_isStep_746 : decode cL_isStep 746 = .ok (.goto 4, 3) := by decide +kernel
theorem d_L_isStep_749 : decode cL_isStep 749 = .ok (.iconst 0, 1) := by decide +kernel
theorem d_L_isStep_750 : decode cL_isStep 750 = .ok (.ireturn, 1) := by decide +kernel
theorem d_L_isStep_751 : decode cL_isStep 751 = .ok (.aload_n 0, 1) := by decide +kernel
theorem d_L_isStep_752 : decode cL_isStep 752 = .ok (.invokestatic 161, 3) := by decide +kernel
theorem d_L_isStep_755 : decode cL_isStep 755 = .ok (.aload_n 1, 1) := by decide +kernel
theorem d_L_isStep_756 : decode cL_isStep 756 = .ok (.invokestatic 161, 3) := by decide +kernel
theorem d_L_isStep_759 : decode cL_isStep 759 = .ok (.if_icmp .ne 7, 3) := by decide +kernel
theorem d_L_isStep_762 : decode cL_isStep 762 = .ok (.iconst 1, 1) := by decide +kernel
theorem d_L_isStep_763 : decode cL_isStep 763 = .ok (.goto 4, 3) := by decide +kernel
theorem d_L_isStep_766 : decode cL_isStep 766 = .ok (.iconst 0, 1) := by decide +kernel
theorem d_L_isStep_767 : decode cL_isStep 767 = .ok (.ireturn, 1) := by decide +kernel
theorem d_L_isStep_768 : decode cL_isStep 768 = .ok (.aload_n 0, 1) := by decide +kernel
theorem d_L_isStep_769 : decode cL_isStep 769 = .ok (.aload_n 1, 1) := by decide +kernel
theorem d_L_isStep_770 : decode cL_isStep 770 = .ok (.invokestatic 142, 3) := by decide +kernel
theorem d_L_isStep_773 : decode cL_isStep 773 = .ok (.ifCond .eq 23, 3) := by decide +kernel
theorem d_L_isStep_776 : decode cL_isStep 776 = .ok (.aload_n 0, 1) := by decide +kernel
theorem d_L_isStep_777 : decode cL_isStep 777 = .ok (.aload_n 1, 1) := by decide +kernel
theorem d_L_isStep_778 : decode cL_isStep 778 = .ok (.iload_n 3, 1) := by decide +kernel
theorem d_L_isStep_779 : decode cL_isStep 779 = .ok (.iconst 1, 1) := by decide +kernel
theorem d_L_isStep_780 : decode cL_isStep 780 = .ok (.iload_n 3, 1) := by decide +kernel
theorem d_L_isStep_781 : decode cL_isStep 781 = .ok (.iconst 5, 1) := by decide +kernel
theorem d_L_isStep_782 : decode cL_isStep 782 = .ok (.invokestatic 95, 3) := by decide +kernel
theorem d_L_isStep_785 : decode cL_isStep 785 = .ok (.iadd, 1) := by decide +kernel
theorem d_L_isStep_786 : decode cL_isStep 786 = .ok (.invokestatic 146, 3) := by decide +kernel
theorem d_L_isStep_789 : decode cL_isStep 789 = .ok (.ifCond .eq 7, 3) := by decide +kernel
theorem d_L_isStep_792 : decode cL_isStep 792 = .ok (.iconst 1, 1) := by decide +kernel
theorem d_L_isStep_793 : decode cL_isStep 793 = .ok (.goto 4, 3) := by decide +kernel
theorem d_L_isStep_796 : decode cL_isStep 796 = .ok (.iconst 0, 1) := by decide +kernel
theorem d_L_isStep_797 : decode cL_isStep 797 = .ok (.istore 11, 2) := by decide +kernel
theorem d_L_isStep_799 : decode cL_isStep 799 = .ok (.aload_n 0, 1) := by decide +kernel
theorem d_L_isStep_800 : decode cL_isStep 800 = .ok (.invokestatic 150, 3) := by decide +kernel
theorem d_L_isStep_803 : decode cL_isStep 803 = .ok (.istore 12, 2) := by decide +kernel
theorem d_L_isStep_805 : decode cL_isStep 805 = .ok (.iload 11, 2) := by decide +kernel
theorem d_L_isStep_807 : decode cL_isStep 807 = .ok (.ifCond .eq 55, 3) := by decide +kernel
theorem d_L_isStep_810 : decode cL_isStep 810 = .ok (.iload 12, 2) := by decide +kernel
theorem d_L_isStep_812 : decode cL_isStep 812 = .ok (.aload_n 1, 1) := by decide +kernel
theorem d_L_isStep_813 : decode cL_isStep 813 = .ok (.invokestatic 150, 3) := by decide +kernel
theorem d_L_isStep_816 : decode cL_isStep 816 = .ok (.if_icmp .ne 46, 3) := by decide +kernel
theorem d_L_isStep_819 : decode cL_isStep 819 = .ok (.iload 12, 2) := by decide +kernel
theorem d_L_isStep_821 : decode cL_isStep 821 = .ok (.ldc 17, 2) := by decide +kernel
theorem d_L_isStep_823 : decode cL_isStep 823 = .ok (.if_icmp .ne 15, 3) := by decide +kernel
theorem d_L_isStep_826 : decode cL_isStep 826 = .ok (.aload_n 0, 1) := by decide +kernel
theorem d_L_isStep_827 : decode cL_isStep 827 = .ok (.invokevirtual 108, 3) := by decide +kernel
theorem d_L_isStep_830 : decode cL_isStep 830 = .ok (.iload 5, 2) := by decide +kernel
theorem d_L_isStep_832 : decode cL_isStep 832 = .ok (.if_icmp .ne 30, 3) := by decide +kernel
theorem d_L_isStep_835 : decode cL_isStep 835 = .ok (.goto 23, 3) := by decide +kernel
theorem d_L_isStep_838 : decode cL_isStep 838 = .ok (.aload_n 0, 1) := by decide +kernel
theorem d_L_isStep_839 : decode cL_isStep 839 = .ok (.invokevirtual 108, 3) := by decide +kernel
theorem d_L_isStep_842 : decode cL_isStep 842 = .ok (.iload 5, 2) := by decide +kernel
theorem d_L_isStep_844 : decode cL_isStep 844 = .ok (.iconst 1, 1) := by decide +kernel
theorem d_L_isStep_845 : decode cL_isStep 845 = .ok (.iadd, 1) := by decide +kernel
theorem d_L_isStep_846 : decode cL_isStep 846 = .ok (.if_icmp .ne 16, 3) := by decide +kernel
theorem d_L_isStep_849 : decode cL_isStep 849 = .ok (.aload_n 0, 1) := by decide +kernel
theorem d_L_isStep_850 : decode cL_isStep 850 = .ok (.iload 5, 2) := by decide +kernel
theorem d_L_isStep_852 : decode cL_isStep 852 = .ok (.invokestatic 117, 3) := by decide +kernel
theorem d_L_isStep_855 : decode cL_isStep 855 = .ok (.ifCond .ne 7, 3) := by decide +kernel
theorem d_L_isStep_858 : decode cL_isStep 858 = .ok (.iconst 1, 1) := by decide +kernel
theorem d_L_isStep_859 : decode cL_isStep 859 = .ok (.goto 4, 3) := by decide +kernel
theorem d_L_isStep_862 : decode cL_isStep 862 = .ok (.iconst 0, 1) := by decide +kernel
theorem d_L_isStep_863 : decode cL_isStep 863 = .ok (.ireturn, 1) := by decide +kernel
theorem d_L_areAlike_0 : decode cL_areAlike 0 = .ok (.aload_n 0, 1) := by decide +kernel
theorem d_L_areAlike_1 : decode cL_areAlike 1 = .ok (.invokevirtual 108, 3) := by decide +kernel
theorem d_L_areAlike_4 : decode cL_areAlike 4 = .ok (.istore_n 2, 1) := by decide +kernel
theorem d_L_areAlike_5 : decode cL_areAlike 5 = .ok (.iload_n 2, 1) := by decide +kernel
theorem d_L_areAlike_6 : decode cL_areAlike 6 = .ok (.aload_n 1, 1) := by decide +kernel
theorem d_L_areAlike_7 : decode cL_areAlike 7 = .ok (.invokevirtual 108, 3) := by decide +kernel
theorem d_L_areAlike_10 : decode cL_areAlike 10 = .ok (.if_icmp .ne 84, 3) := by decide +kernel
theorem d_L_areAlike_13 : decode cL_areAlike 13 = .ok (.aload_n 0, 1) := by decide +kernel
theorem d_L_areAlike_14 : decode cL_areAlike 14 = .ok (.invokevirtual 163, 3) := by decide +kernel
theorem d_L_areAlike_17 : decode cL_areAlike 17 = .ok (.aload_n 1, 1) := by decide +kernel
theorem d_L_areAlike_18 : decode cL_areAlike 18 = .ok (.invokevirtual 163, 3) := by decide +kernel
theorem d_L_areAlike_21 : decode cL_areAlike 21 = .ok (.if_icmp .ne 73, 3) := by decide +kernel
theorem d_L_areAlike_24 : decode cL_areAlike 24 = .ok (.aload_n 0, 1) := by decide +kernel
theorem d_L_areAlike_25 : decode cL_areAlike 25 = .ok (.invokevirtual 134, 3) := by decide +kernel
theorem d_L_areAlike_28 : decode cL_areAlike 28 = .ok (.aload_n 1, 1) := by decide +kernel
theorem d_L_areAlike_29 : decode cL_areAlike 29 = .ok (.invokevirtual 134, 3) := by decide +kernel
theorem d_L_areAlike_32 : decode cL_areAlike 32 = .ok (.if_icmp .ne 62, 3) := by decide +kernel
theorem d_L_areAlike_35 : decode cL_areAlike 35 = .ok (.aload_n 0, 1) := by decide +kernel
theorem d_L_areAlike_36 : decode cL_areAlike 36 = .ok (.invokevirtual 123, 3) := by decide +kernel
theorem d_L_areAlike_39 : decode cL_areAlike 39 = .ok (.aload_n 1, 1) := by decide +kernel
theorem d_L_areAlike_40 : decode cL_areAlike 40 = .ok (.invokevirtual 123, 3) := by decide +kernel
theorem d_L_areAlike_43 : decode cL_areAlike 43 = .ok (.if_icmp .ne 51, 3) := by decide +kernel
theorem d_L_areAlike_46 : decode cL_areAlike 46 = .ok (.aload_n 0, 1) := by decide +kernel
theorem d_L_areAlike_47 : decode cL_areAlike 47 = .ok (.invokevirtual 114, 3) := by decide +kernel
theorem d_L_areAlike_50 : decode cL_areAlike 50 = .ok (.aload_n 1, 1) := by decide +kernel
theorem d_L_areAlike_51 : decode cL_areAlike 51 = .ok (.invokevirtual 114, 3) := by decide +kernel
theorem d_L_areAlike_54 : decode cL_areAlike 54 = .ok (.if_icmp .ne 40, 3) := by decide +kernel
theorem d_L_areAlike_57 : decode cL_areAlike 57 = .ok (.aload_n 0, 1) := by decide +kernel
theorem d_L_areAlike_58 : decode cL_areAlike 58 = .ok (.invokevirtual 111, 3) := by decide +kernel
theorem d_L_areAlike_61 : decode cL_areAlike 61 = .ok (.aload_n 1, 1) := by decide +kernel
theorem d_L_areAlike_62 : decode cL_areAlike 62 = .ok (.invokevirtual 126, 3) := by decide +kernel
theorem d_L_areAlike_65 : decode cL_areAlike 65 = .ok (.if_icmp .ne 29, 3) := by decide +kernel
theorem d_L_areAlike_68 : decode cL_areAlike 68 = .ok (.aload_n 0, 1) := by decide +kernel
theorem d_L_areAlike_69 : decode cL_areAlike 69 = .ok (.invokevirtual 166, 3) := by decide +kernel
theorem d_L_areAlike_72 : decode cL_areAlike 72 = .ok (.aload_n 1, 1) := by decide +kernel
theorem d_L_areAlike_73 : decode cL_areAlike 73 = .ok (.invokevirtual 166, 3) := by decide +kernel
theorem d_L_areAlike_76 : decode cL_areAlike 76 = .ok (.if_icmp .ne 18, 3) := by decide +kernel
theorem d_L_areAlike_79 : decode cL_areAlike 79 = .ok (.aload_n 0, 1) := by decide +kernel
theorem d_L_areAlike_80 : decode cL_areAlike 80 = .ok (.invokevirtual 169, 3) := by decide +kernel
theorem d_L_areAlike_83 : decode cL_areAlike 83 = .ok (.aload_n 1, 1) := by decide +kernel
theorem d_L_areAlike_84 : decode cL_areAlike 84 = .ok (.invokevirtual 169, 3) := by decide +kernel
theorem d_L_areAlike_87 : decode cL_areAlike 87 = .ok (.if_icmp .ne 7, 3) := by decide +kernel
theorem d_L_areAlike_90 : decode cL_areAlike 90 = .ok (.iconst 1, 1) := by decide +kernel
theorem d_L_areAlike_91 : decode cL_areAlike 91 = .ok (.goto 4, 3) := by decide +kernel
theorem d_L_areAlike_94 : decode cL_areAlike 94 = .ok (.iconst 0, 1) := by decide +kernel
theorem d_L_areAlike_95 : decode cL_areAlike 95 = .ok (.istore_n 3, 1) := by decide +kernel
theorem d_L_areAlike_96 : decode cL_areAlike 96 = .ok (.iconst 0, 1) := by decide +kernel
theorem d_L_areAlike_97 : decode cL_areAlike 97 = .ok (.istore 4, 2) := by decide +kernel
theorem d_L_areAlike_99 : decode cL_areAlike 99 = .ok (.iload 4, 2) := by decide +kernel
theorem d_L_areAlike_101 : decode cL_areAlike 101 = .ok (.iload_n 2, 1) := by decide +kernel
theorem d_L_areAlike_102 : decode cL_areAlike 102 = .ok (.if_icmp .ge 267, 3) := by decide +kernel
theorem d_L_areAlike_105 : decode cL_areAlike 105 = .ok (.iload_n 3, 1) := by decide +kernel
theorem d_L_areAlike_106 : decode cL_areAlike 106 = .ok (.ifCond .eq 90, 3) := by decide +kernel
theorem d_L_areAlike_109 : decode cL_areAlike 109 = .ok (.aload_n 0, 1) := by decide +kernel
theorem d_L_areAlike_110 : decode cL_areAlike 110 = .ok (.iload 4, 2) := by decide +kernel
theorem d_L_areAlike_112 : decode cL_areAlike 112 = .ok (.invokestatic 172, 3) := by decide +kernel
theorem d_L_areAlike_115 : decode cL_areAlike 115 = .ok (.aload_n 1, 1) := by decide +kernel
theorem d_L_areAlike_116 : decode cL_areAlike 116 = .ok (.iload 4, 2) := by decide +kernel
theorem d_L_areAlike_118 : decode cL_areAlike 118 = .ok (.invokestatic 172, 3) := by decide +kernel
theorem d_L_areAlike_121 : decode cL_areAlike 121 = .ok (.if_icmp .ne 75, 3) := by decide +kernel
theorem d_L_areAlike_124 : decode cL_areAlike 124 = .ok (.aload_n 0, 1) := by decide +kernel
theorem d_L_areAlike_125 : decode cL_areAlike 125 = .ok (.iload 4, 2) := by decide +kernel
theorem d_L_areAlike_127 : decode cL_areAlike 127 = .ok (.invokestatic 117, 3) := by decide +kernel
theorem d_L_areAlike_130 : decode cL_areAlike 130 = .ok (.aload_n 1, 1) := by decide +kernel
theorem d_L_areAlike_131 : decode cL_areAlike 131 = .ok (.iload 4, 2) := by decide +kernel
theorem d_L_areAlike_133 : decode cL_areAlike 133 = .ok (.invokestatic 117, 3) := by decide +kernel
theorem d_L_areAlike_136 : decode cL_areAlike 136 = .ok (.if_icmp .ne 60, 3) := by decide +kernel
theorem d_L_areAlike_139 : decode cL_areAlike 139 = .ok (.aload_n 0, 1) := by decide +kernel
theorem d_L_areAlike_140 : decode cL_areAlike 140 = .ok (.iload 4, 2) := by decide +kernel
theorem d_L_areAlike_142 : decode cL_areAlike 142 = .ok (.invokestatic 175, 3) := by decide +kernel
theorem d_L_areAlike_145 : decode cL_areAlike 145 = .ok (.aload_n 1, 1) := by decide +kernel
theorem d_L_areAlike_146 : decode cL_areAlike 146 = .ok (.iload 4, 2) := by decide +kernel
theorem d_L_areAlike_148 : decode cL_areAlike 148 = .ok (.invokestatic 175, 3) := by decide +kernel
theorem d_L_areAlike_151 : decode cL_areAlike 151 = .ok (.if_icmp .ne 45, 3) := by decide +kernel
theorem d_L_areAlike_154 : decode cL_areAlike 154 = .ok (.aload_n 0, 1) := by decide +kernel
theorem d_L_areAlike_155 : decode cL_areAlike 155 = .ok (.iload 4, 2) := by decide +kernel
theorem d_L_areAlike_157 : decode cL_areAlike 157 = .ok (.invokestatic 177, 3) := by decide +kernel
theorem d_L_areAlike_160 : decode cL_areAlike 160 = .ok (.aload_n 1, 1) := by decide +kernel
theorem d_L_areAlike_161 : decode cL_areAlike 161 = .ok (.iload 4, 2) := by decide +kernel
theorem d_L_areAlike_163 : decode cL_areAlike 163 = .ok (.invokestatic 177, 3) := by decide +kernel
theorem d_L_areAlike_166 : decode cL_areAlike 166 = .ok (.if_icmp .ne 30, 3) := by decide +kernel
theorem d_L_areAlike_169 : decode cL_areAlike 169 = .ok (.aload_n 0, 1) := by decide +kernel
theorem d_L_areAlike_170 : decode cL_areAlike 170 = .ok (.iload 4, 2) := by decide +kernel
theorem d_L_areAlike_172 : decode cL_areAlike 172 = .ok (.invokestatic 179, 3) := by decide +kernel
theorem d_L_areAlike_175 : decode cL_areAlike 175 = .ok (.aload_n 1, 1) := by decide +kernel
theorem d_L_areAlike_176 : decode cL_areAlike 176 = .ok (.iload 4, 2) := by decide +kernel
theorem d_L_areAlike_178 : decode cL_areAlike 178 = .ok (.invokestatic 179, 3) := by decide +kernel
theorem d_L_areAlike_181 : decode cL_areAlike 181 = .ok (.if_icmp .ne 15, 3) := by decide +kernel
theorem d_L_areAlike_184 : decode cL_areAlike 184 = .ok (.aload_n 0, 1) := by decide +kernel
theorem d_L_areAlike_185 : decode cL_areAlike 185 = .ok (.aload_n 1, 1) := by decide +kernel
theorem d_L_areAlike_186 : decode cL_areAlike 186 = .ok (.invokestatic 142, 3) := by decide +kernel
theorem d_L_areAlike_189 : decode cL_areAlike 189 = .ok (.ifCond .eq 7, 3) := by decide +kernel
theorem d_L_areAlike_192 : decode cL_areAlike 192 = .ok (.iconst 1, 1) := by decide +kernel
theorem d_L_areAlike_193 : decode cL_areAlike 193 = .ok (.goto 4, 3) := by decide +kernel
theorem d_L_areAlike_196 : decode cL_areAlike 196 = .ok (.iconst 0, 1) := by decide +kernel
theorem d_L_areAlike_197 : decode cL_areAlike 197 = .ok (.istore_n 3, 1) := by decide +kernel
theorem d_L_areAlike_198 : decode cL_areAlike 198 = .ok (.iconst 0, 1) := by decide +kernel
theorem d_L_areAlike_199 : decode cL_areAlike 199 = .ok (.istore 5, 2) := by decide +kernel
theorem d_L_areAlike_201 : decode cL_areAlike 201 = .ok (.iload 5, 2) := by decide +kernel
theorem d_L_areAlike_203 : decode cL_areAlike 203 = .ok (.aload_n 0, 1) := by decide +kernel
theorem d_L_areAlike_204 : decode cL_areAlike 204 = .ok (.iload 4, 2) := by decide +kernel
theorem d_L_areAlike_206 : decode cL_areAlike 206 = .ok (.invokestatic 172, 3) := by decide +kernel
theorem d_L_areAlike_209 : decode cL_areAlike 209 = .ok (.if_icmp .ge 43, 3) := by decide +kernel
theorem d_L_areAlike_212 : decode cL_areAlike 212 = .ok (.iload_n 3, 1) := by decide +kernel
theorem d_L_areAlike_213 : decode cL_areAlike 213 = .ok (.ifCond .eq 31, 3) := by decide +kernel
theorem d_L_areAlike_216 : decode cL_areAlike 216 = .ok (.aload_n 0, 1) := by decide +kernel
theorem d_L_areAlike_217 : decode cL_areAlike 217 = .ok (.iload 4, 2) := by decide +kernel
theorem d_L_areAlike_219 : decode cL_areAlike 219 = .ok (.iconst 1, 1) := by decide +kernel
theorem d_L_areAlike_220 : decode cL_areAlike 220 = .ok (.iload 5, 2) := by decide +kernel
theorem d_L_areAlike_222 : decode cL_areAlike 222 = .ok (.invokestatic 181, 3) := by decide +kernel
theorem d_L_areAlike_225 : decode cL_areAlike 225 = .ok (.invokestatic 92, 3) := by decide +kernel
theorem d_L_areAlike_228 : decode cL_areAlike 228 = .ok (.aload_n 1, 1) := by decide +kernel
theorem d_L_areAlike_229 : decode cL_areAlike 229 = .ok (.iload 4, 2) := by decide +kernel
theorem d_L_areAlike_231 : decode cL_areAlike 231 = .ok (.iconst 1, 1) := by decide +kernel
theorem d_L_areAlike_232 : decode cL_areAlike 232 = .ok (.iload 5, 2) := by decide +kernel
theorem d_L_areAlike_234 : decode cL_areAlike 234 = .ok (.invokestatic 181, 3) := by decide +kernel
theorem d_L_areAlike_237 : decode cL_areAlike 237 = .ok (.if_icmp .ne 7, 3) := by decide +kernel
theorem d_L_areAlike_240 : decode cL_areAlike 240 = .ok (.iconst 1, 1) := by decide +kernel
theorem d_L_areAlike_241 : decode cL_areAlike 241 = .ok (.goto 4, 3) := by decide +kernel
theorem d_L_areAlike_244 : decode cL_areAlike 244 = .ok (.iconst 0, 1) := by decide +kernel
theorem d_L_areAlike_245 : decode cL_areAlike 245 = .ok (.istore_n 3, 1) := by decide +kernel
theorem d_L_areAlike_246 : decode cL_areAlike 246 = .ok (.iinc 5 1, 3) := by decide +kernel
theorem d_L_areAlike_249 : decode cL_areAlike 249 = .ok (.goto (-48), 3) := by decide +kernel
theorem d_L_areAlike_252 : decode cL_areAlike 252 = .ok (.iconst 0, 1) := by decide +kernel
theorem d_L_areAlike_253 : decode cL_areAlike 253 = .ok (.istore 5, 2) := by decide +kernel
theorem d_L_areAlike_255 : decode cL_areAlike 255 = .ok (.iload 5, 2) := by decide +kernel
theorem d_L_areAlike_257 : decode cL_areAlike 257 = .ok (.aload_n 0, 1) := by decide +kernel
theorem d_L_areAlike_258 : decode cL_areAlike 258 = .ok (.iload 4, 2) := by decide +kernel
theorem d_L_areAlike_260 : decode cL_areAlike 260 = .ok (.invokestatic 179, 3) := by decide +kernel
theorem d_L_areAlike_263 : decode cL_areAlike 263 = .ok (.if_icmp .ge 57, 3) := by decide +kernel
theorem d_L_areAlike_266 : decode cL_areAlike 266 = .ok (.iload_n 3, 1) := by decide +kernel
theorem d_L_areAlike_267 : decode cL_areAlike 267 = .ok (.ifCond .eq 45, 3) := by decide +kernel
theorem d_L_areAlike_270 : decode cL_areAlike 270 = .ok (.aload_n 0, 1) := by decide +kernel
theorem d_L_areAlike_271 : decode cL_areAlike 271 = .ok (.iload 4, 2) := by decide +kernel
theorem d_L_areAlike_273 : decode cL_areAlike 273 = .ok (.iload 5, 2) := by decide +kernel
theorem d_L_areAlike_275 : decode cL_areAlike 275 = .ok (.invokestatic 185, 3) := by decide +kernel
theorem d_L_areAlike_278 : decode cL_areAlike 278 = .ok (.invokestatic 92, 3) := by decide +kernel
theorem d_L_areAlike_281 : decode cL_areAlike 281 = .ok (.aload_n 1, 1) := by decide +kernel
theorem d_L_areAlike_282 : decode cL_areAlike 282 = .ok (.iload 4, 2) := by decide +kernel
theorem d_L_areAlike_284 : decode cL_areAlike 284 = .ok (.iload 5, 2) := by decide +kernel
theorem d_L_areAlike_286 : decode cL_areAlike 286 = .ok (.invokestatic 185, 3) := by decide +kernel
theorem d_L_areAlike_289 : decode cL_areAlike 289 = .ok (.if_icmp .ne 23, 3) := by decide +kernel
theorem d_L_areAlike_292 : decode cL_areAlike 292 = .ok (.aload_n 0, 1) := by decide +kernel
theorem d_L_areAlike_293 : decode cL_areAlike 293 = .ok (.aload_n 1, 1) := by decide +kernel
theorem d_L_areAlike_294 : decode cL_areAlike 294 = .ok (.aload_n 0, 1) := by decide +kernel
theorem d_L_areAlike_295 : decode cL_areAlike 295 = .ok (.iload 4, 2) := by decide +kernel
theorem d_L_areAlike_297 : decode cL_areAlike 297 = .ok (.iload 5, 2) := by decide +kernel
theorem d_L_areAlike_299 : decode cL_areAlike 299 = .ok (.invokestatic 185, 3) := by decide +kernel
theorem d_L_areAlike_302 : decode cL_areAlike 302 = .ok (.invokestatic 101, 3) := by decide +kernel
theorem d_L_areAlike_305 : decode cL_areAlike 305 = .ok (.ifCond .eq 7, 3) := by decide +kernel
theorem d_L_areAlike_308 : decode cL_areAlike 308 = .ok (.iconst 1, 1) := by decide +kernel
theorem d_L_areAlike_309 : decode cL_areAlike 309 = .ok (.goto 4, 3) := by decide +kernel
theorem d_L_areAlike_312 : decode cL_areAlike 312 = .ok (.iconst 0, 1) := by decide +kernel
theorem d_L_areAlike_313 : decode cL_areAlike 313 = .ok (.istore_n 3, 1) := by decide +kernel
theorem d_L_areAlike_314 : decode cL_areAlike 314 = .ok (.iinc 5 1, 3) := by decide +kernel
theorem d_L_areAlike_317 : decode cL_areAlike 317 = .ok (.goto (-62), 3) := by decide +kernel
theorem d_L_areAlike_320 : decode cL_areAlike 320 = .ok (.iload_n 3, 1) := by decide +kernel
theorem d_L_areAlike_321 : decode cL_areAlike 321 = .ok (.ifCond .eq 40, 3) := by decide +kernel
theorem d_L_areAlike_324 : decode cL_areAlike 324 = .ok (.aload_n 0, 1) := by decide +kernel
theorem d_L_areAlike_325 : decode cL_areAlike 325 = .ok (.invokestatic 188, 3) := by decide +kernel
theorem d_L_areAlike_328 : decode cL_areAlike 328 = .ok (.aload_n 1, 1) := by decide +kernel
theorem d_L_areAlike_329 : decode cL_areAlike 329 = .ok (.invokestatic 191, 3) := by decide +kernel
theorem d_L_areAlike_332 : decode cL_areAlike 332 = .ok (.if_icmp .ne 29, 3) := by decide +kernel
theorem d_L_areAlike_335 : decode cL_areAlike 335 = .ok (.aload_n 0, 1) := by decide +kernel
theorem d_L_areAlike_336 : decode cL_areAlike 336 = .ok (.invokestatic 191, 3) := by decide +kernel
theorem d_L_areAlike_339 : decode cL_areAlike 339 = .ok (.aload_n 1, 1) := by decide +kernel
theorem d_L_areAlike_340 : decode cL_areAlike 340 = .ok (.invokestatic 188, 3) := by decide +kernel
theorem d_L_areAlike_343 : decode cL_areAlike 343 = .ok (.if_icmp .ne 18, 3) := by decide +kernel
theorem d_L_areAlike_346 : decode cL_areAlike 346 = .ok (.aload_n 0, 1) := by decide +kernel
theorem d_L_areAlike_347 : decode cL_areAlike 347 = .ok (.invokestatic 194, 3) := by decide +kernel
theorem d_L_areAlike_350 : decode cL_areAlike 350 = .ok (.aload_n 1, 1) := by decide +kernel
theorem d_L_areAlike_351 : decode cL_areAlike 351 = .ok (.invokestatic 194, 3) := by decide +kernel
theorem d_L_areAlike_354 : decode cL_areAlike 354 = .ok (.if_icmp .ne 7, 3) := by decide +kernel
theorem d_L_areAlike_357 : decode cL_areAlike 357 = .ok (.iconst 1, 1) := by decide +kernel
theorem d_L_areAlike_358 : decode cL_areAlike 358 = .ok (.goto 4, 3) := by decide +kernel
theorem d_L_areAlike_361 : decode cL_areAlike 361 = .ok (.iconst 0, 1) := by decide +kernel
theorem d_L_areAlike_362 : decode cL_areAlike 362 = .ok (.istore_n 3, 1) := by decide +kernel
theorem d_L_areAlike_363 : decode cL_areAlike 363 = .ok (.iinc 4 1, 3) := by decide +kernel
theorem d_L_areAlike_366 : decode cL_areAlike 366 = .ok (.goto (-267), 3) := by decide +kernel
theorem d_L_areAlike_369 : decode cL_areAlike 369 = .ok (.iconst 0, 1) := by decide +kernel
theorem d_L_areAlike_370 : decode cL_areAlike 370 = .ok (.istore 4, 2) := by decide +kernel
theorem d_L_areAlike_372 : decode cL_areAlike 372 = .ok (.iload 4, 2) := by decide +kernel
theorem d_L_areAlike_374 : decode cL_areAlike 374 = .ok (.aload_n 0, 1) := by decide +kernel
theorem d_L_areAlike_375 : decode cL_areAlike 375 = .ok (.invokevirtual 134, 3) := by decide +kernel
theorem d_L_areAlike_378 : decode cL_areAlike 378 = .ok (.if_icmp .ge 34, 3) := by decide +kernel
theorem d_L_areAlike_381 : decode cL_areAlike 381 = .ok (.iload_n 3, 1) := by decide +kernel
theorem d_L_areAlike_382 : decode cL_areAlike 382 = .ok (.ifCond .eq 22, 3) := by decide +kernel
theorem d_L_areAlike_385 : decode cL_areAlike 385 = .ok (.aload_n 0, 1) := by decide +kernel
theorem d_L_areAlike_386 : decode cL_areAlike 386 = .ok (.iload 4, 2) := by decide +kernel
theorem d_L_areAlike_388 : decode cL_areAlike 388 = .ok (.invokestatic 197, 3) := by decide +kernel
theorem d_L_areAlike_391 : decode cL_areAlike 391 = .ok (.aload_n 1, 1) := by decide +kernel
theorem d_L_areAlike_392 : decode cL_areAlike 392 = .ok (.iload 4, 2) := by decide +kernel
theorem d_L_areAlike_394 : decode cL_areAlike 394 = .ok (.invokestatic 197, 3) := by decide +kernel
theorem d_L_areAlike_397 : decode cL_areAlike 397 = .ok (.if_icmp .ne 7, 3) := by decide +kernel
theorem d_L_areAlike_400 : decode cL_areAlike 400 = .ok (.iconst 1, 1) := by decide +kernel
theorem d_L_areAlike_401 : decode cL_areAlike 401 = .ok (.goto 4, 3) := by decide +kernel
theorem d_L_areAlike_404 : decode cL_areAlike 404 = .ok (.iconst 0, 1) := by decide +kernel
theorem d_L_areAlike_405 : decode cL_areAlike 405 = .ok (.istore_n 3, 1) := by decide +kernel
theorem d_L_areAlike_406 : decode cL_areAlike 406 = .ok (.iinc 4 1, 3) := by decide +kernel
theorem d_L_areAlike_409 : decode cL_areAlike 409 = .ok (.goto (-37), 3) := by decide +kernel
theorem d_L_areAlike_412 : decode cL_areAlike 412 = .ok (.iload_n 3, 1) := by decide +kernel
theorem d_L_areAlike_413 : decode cL_areAlike 413 = .ok (.ireturn, 1) := by decide +kernel
theorem d_L_isWell_0 : decode cL_isWell 0 = .ok (.iconst 0, 1) := by decide +kernel
theorem d_L_isWell_1 : decode cL_isWell 1 = .ok (.istore_n 1, 1) := by decide +kernel
theorem d_L_isWell_2 : decode cL_isWell 2 = .ok (.iconst 0, 1) := by decide +kernel
theorem d_L_isWell_3 : decode cL_isWell 3 = .ok (.istore_n 2, 1) := by decide +kernel
theorem d_L_isWell_4 : decode cL_isWell 4 = .ok (.aload_n 0, 1) := by decide +kernel
theorem d_L_isWell_5 : decode cL_isWell 5 = .ok (.invokevirtual 111, 3) := by decide +kernel
theorem d_L_isWell_8 : decode cL_isWell 8 = .ok (.aload_n 0, 1) := by decide +kernel
theorem d_L_isWell_9 : decode cL_isWell 9 = .ok (.invokevirtual 126, 3) := by decide +kernel
theorem d_L_isWell_12 : decode cL_isWell 12 = .ok (.if_icmp .ne 46, 3) := by decide +kernel
theorem d_L_isWell_15 : decode cL_isWell 15 = .ok (.aload_n 0, 1) := by decide +kernel
theorem d_L_isWell_16 : decode cL_isWell 16 = .ok (.invokevirtual 114, 3) := by decide +kernel
theorem d_L_isWell_19 : decode cL_isWell 19 = .ok (.aload_n 0, 1) := by decide +kernel
theorem d_L_isWell_20 : decode cL_isWell 20 = .ok (.invokevirtual 111, 3) := by decide +kernel
theorem d_L_isWell_23 : decode cL_isWell 23 = .ok (.if_icmp .gt 35, 3) := by decide +kernel
theorem d_L_isWell_26 : decode cL_isWell 26 = .ok (.aload_n 0, 1) := by decide +kernel
theorem d_L_isWell_27 : decode cL_isWell 27 = .ok (.invokevirtual 123, 3) := by decide +kernel
theorem d_L_isWell_30 : decode cL_isWell 30 = .ok (.bipush 30, 2) := by decide +kernel
theorem d_L_isWell_32 : decode cL_isWell 32 = .ok (.if_icmp .gt 26, 3) := by decide +kernel
theorem d_L_isWell_35 : decode cL_isWell 35 = .ok (.aload_n 0, 1) := by decide +kernel
theorem d_L_isWell_36 : decode cL_isWell 36 = .ok (.invokevirtual 123, 3) := by decide +kernel
theorem d_L_isWell_39 : decode cL_isWell 39 = .ok (.aload_n 0, 1) := by decide +kernel
theorem d_L_isWell_40 : decode cL_isWell 40 = .ok (.invokevirtual 111, 3) := by decide +kernel
theorem d_L_isWell_43 : decode cL_isWell 43 = .ok (.if_icmp .gt 15, 3) := by decide +kernel
theorem d_L_isWell_46 : decode cL_isWell 46 = .ok (.aload_n 0, 1) := by decide +kernel
theorem d_L_isWell_47 : decode cL_isWell 47 = .ok (.invokevirtual 134, 3) := by decide +kernel
theorem d_L_isWell_50 : decode cL_isWell 50 = .ok (.iconst 1, 1) := by decide +kernel
theorem d_L_isWell_51 : decode cL_isWell 51 = .ok (.if_icmp .lt 7, 3) := by decide +kernel
theorem d_L_isWell_54 : decode cL_isWell 54 = .ok (.iconst 1, 1) := by decide +kernel
theorem d_L_isWell_55 : decode cL_isWell 55 = .ok (.goto 4, 3) := by decide +kernel
theorem d_L_isWell_58 : decode cL_isWell 58 = .ok (.iconst 0, 1) := by decide +kernel
theorem d_L_isWell_59 : decode cL_isWell 59 = .ok (.istore_n 3, 1) := by decide +kernel
theorem d_L_isWell_60 : decode cL_isWell 60 = .ok (.iconst 0, 1) := by decide +kernel
theorem d_L_isWell_61 : decode cL_isWell 61 = .ok (.istore 4, 2) := by decide +kernel
theorem d_L_isWell_63 : decode cL_isWell 63 = .ok (.iload 4, 2) := by decide +kernel
theorem d_L_isWell_65 : decode cL_isWell 65 = .ok (.aload_n 0, 1) := by decide +kernel
theorem d_L_isWell_66 : decode cL_isWell 66 = .ok (.invokevirtual 108, 3) := by decide +kernel
theorem d_L_isWell_69 : decode cL_isWell 69 = .ok (.if_icmp .ge 231, 3) := by decide +kernel
theorem d_L_isWell_72 : decode cL_isWell 72 = .ok (.iload_n 1, 1) := by decide +kernel
theorem d_L_isWell_73 : decode cL_isWell 73 = .ok (.aload_n 0, 1) := by decide +kernel
theorem d_L_isWell_74 : decode cL_isWell 74 = .ok (.iload 4, 2) := by decide +kernel
theorem d_L_isWell_76 : decode cL_isWell 76 = .ok (.invokestatic 117, 3) := by decide +kernel
theorem d_L_isWell_79 : decode cL_isWell 79 = .ok (.iadd, 1) := by decide +kernel
theorem d_L_isWell_80 : decode cL_isWell 80 = .ok (.istore_n 1, 1) := by decide +kernel
theorem d_L_isWell_81 : decode cL_isWell 81 = .ok (.iload_n 2, 1) := by decide +kernel
theorem d_L_isWell_82 : decode cL_isWell 82 = .ok (.aload_n 0, 1) := by decide +kernel
theorem d_L_isWell_83 : decode cL_isWell 83 = .ok (.iload 4, 2) := by decide +kernel
theorem d_L_isWell_85 : decode cL_isWell 85 = .ok (.invokestatic 175, 3) := by decide +kernel
theorem d_L_isWell_88 : decode cL_isWell 88 = .ok (.iconst 1, 1) := by decide +kernel
theorem d_L_isWell_89 : decode cL_isWell 89 = .ok (.if_icmp .ne 7, 3) := by decide +kernel
theorem d_L_isWell_92 : decode cL_isWell 92 = .ok (.iconst 0, 1) := by decide +kernel
theorem d_L_isWell_93 : decode cL_isWell 93 = .ok (.goto 4, 3) := by decide +kernel
theorem d_L_isWell_96 : decode cL_isWell 96 = .ok (.iconst 1, 1) := by decide +kernel
theorem d_L_isWell_97 : decode cL_isWell 97 = .ok (.iadd, 1) := by decide +kernel
theorem d_L_isWell_98 : decode cL_isWell 98 = .ok (.istore_n 2, 1) := by decide +kernel
theorem d_L_isWell_99 : decode cL_isWell 99 = .ok (.iload_n 3, 1) := by decide +kernel
theorem d_L_isWell_100 : decode cL_isWell 100 = .ok (.ifCond .eq 88, 3) := by decide +kernel
theorem d_L_isWell_103 : decode cL_isWell 103 = .ok (.aload_n 0, 1) := by decide +kernel
theorem d_L_isWell_104 : decode cL_isWell 104 = .ok (.iload 4, 2) := by decide +kernel
theorem d_L_isWell_106 : decode cL_isWell 106 = .ok (.invokestatic 177, 3) := by decide +kernel
theorem d_L_isWell_109 : decode cL_isWell 109 = .ok (.ifCond .ge 7, 3) := by decide +kernel
theorem d_L_isWell_112 : decode cL_isWell 112 = .ok (.iconst 1, 1) := by decide +kernel
theorem d_L_isWell_113 : decode cL_isWell 113 = .ok (.goto 4, 3) := by decide +kernel
theorem d_L_isWell_116 : decode cL_isWell 116 = .ok (.iconst 0, 1) := by decide +kernel
theorem d_L_isWell_117 : decode cL_isWell 117 = .ok (.aload_n 0, 1) := by decide +kernel
theorem d_L_isWell_118 : decode cL_isWell 118 = .ok (.iload 4, 2) := by decide +kernel
theorem d_L_isWell_120 : decode cL_isWell 120 = .ok (.invokestatic 175, 3) := by decide +kernel
theorem d_L_isWell_123 : decode cL_isWell 123 = .ok (.iconst 1, 1) := by decide +kernel
theorem d_L_isWell_124 : decode cL_isWell 124 = .ok (.if_icmp .ne 7, 3) := by decide +kernel
theorem d_L_isWell_127 : decode cL_isWell 127 = .ok (.iconst 1, 1) := by decide +kernel
theorem d_L_isWell_128 : decode cL_isWell 128 = .ok (.goto 4, 3) := by decide +kernel
theorem d_L_isWell_131 : decode cL_isWell 131 = .ok (.iconst 0, 1) := by decide +kernel
theorem d_L_isWell_132 : decode cL_isWell 132 = .ok (.if_icmp .ne 56, 3) := by decide +kernel
theorem d_L_isWell_135 : decode cL_isWell 135 = .ok (.aload_n 0, 1) := by decide +kernel
theorem d_L_isWell_136 : decode cL_isWell 136 = .ok (.iload 4, 2) := by decide +kernel
theorem d_L_isWell_138 : decode cL_isWell 138 = .ok (.invokestatic 172, 3) := by decide +kernel
theorem d_L_isWell_141 : decode cL_isWell 141 = .ok (.iconst 1, 1) := by decide +kernel
theorem d_L_isWell_142 : decode cL_isWell 142 = .ok (.if_icmp .lt 46, 3) := by decide +kernel
theorem d_L_isWell_145 : decode cL_isWell 145 = .ok (.aload_n 0, 1) := by decide +kernel
theorem d_L_isWell_146 : decode cL_isWell 146 = .ok (.iload 4, 2) := by decide +kernel
theorem d_L_isWell_148 : decode cL_isWell 148 = .ok (.invokestatic 172, 3) := by decide +kernel
theorem d_L_isWell_151 : decode cL_isWell 151 = .ok (.bipush 12, 2) := by decide +kernel
theorem d_L_isWell_153 : decode cL_isWell 153 = .ok (.if_icmp .gt 35, 3) := by decide +kernel
theorem d_L_isWell_156 : decode cL_isWell 156 = .ok (.aload_n 0, 1) := by decide +kernel
theorem d_L_isWell_157 : decode cL_isWell 157 = .ok (.iload 4, 2) := by decide +kernel
theorem d_L_isWell_159 : decode cL_isWell 159 = .ok (.invokestatic 179, 3) := by decide +kernel
theorem d_L_isWell_162 : decode cL_isWell 162 = .ok (.iconst 1, 1) := by decide +kernel
theorem d_L_isWell_163 : decode cL_isWell 163 = .ok (.if_icmp .lt 25, 3) := by decide +kernel
theorem d_L_isWell_166 : decode cL_isWell 166 = .ok (.aload_n 0, 1) := by decide +kernel
theorem d_L_isWell_167 : decode cL_isWell 167 = .ok (.iload 4, 2) := by decide +kernel
theorem d_L_isWell_169 : decode cL_isWell 169 = .ok (.invokestatic 179, 3) := by decide +kernel
theorem d_L_isWell_172 : decode cL_isWell 172 = .ok (.bipush 16, 2) := by decide +kernel
theorem d_L_isWell_174 : decode cL_isWell 174 = .ok (.if_icmp .gt 14, 3) := by decide +kernel
theorem d_L_isWell_177 : decode cL_isWell 177 = .ok (.aload_n 0, 1) := by decide +kernel
theorem d_L_isWell_178 : decode cL_isWell 178 = .ok (.invokevirtual 105, 3) := by decide +kernel
theorem d_L_isWell_181 : decode cL_isWell 181 = .ok (.ifCond .lt 7, 3) := by decide +kernel
theorem d_L_isWell_184 : decode cL_isWell 184 = .ok (.iconst 1, 1) := by decide +kernel
theorem d_L_isWell_185 : decode cL_isWell 185 = .ok (.goto 4, 3) := by decide +kernel
theorem d_L_isWell_188 : decode cL_isWell 188 = .ok (.iconst 0, 1) := by decide +kernel
theorem d_L_isWell_189 : decode cL_isWell 189 = .ok (.istore_n 3, 1) := by decide +kernel
theorem d_L_isWell_190 : decode cL_isWell 190 = .ok (.iconst 0, 1) := by decide +kernel
theorem d_L_isWell_191 : decode cL_isWell 191 = .ok (.istore 5, 2) := by decide +kernel
theorem d_L_isWell_193 : decode cL_isWell 193 = .ok (.iload 5, 2) := by decide +kernel
theorem d_L_isWell_195 : decode cL_isWell 195 = .ok (.aload_n 0, 1) := by decide +kernel
theorem d_L_isWell_196 : decode cL_isWell 196 = .ok (.iload 4, 2) := by decide +kernel
theorem d_L_isWell_198 : decode cL_isWell 198 = .ok (.invokestatic 179, 3) := by decide +kernel
theorem d_L_isWell_201 : decode cL_isWell 201 = .ok (.if_icmp .ge 39, 3) := by decide +kernel
theorem d_L_isWell_204 : decode cL_isWell 204 = .ok (.iload_n 3, 1) := by decide +kernel
theorem d_L_isWell_205 : decode cL_isWell 205 = .ok (.ifCond .eq 27, 3) := by decide +kernel
theorem d_L_isWell_208 : decode cL_isWell 208 = .ok (.aload_n 0, 1) := by decide +kernel
theorem d_L_isWell_209 : decode cL_isWell 209 = .ok (.aload_n 0, 1) := by decide +kernel
theorem d_L_isWell_210 : decode cL_isWell 210 = .ok (.iload 4, 2) := by decide +kernel
theorem d_L_isWell_212 : decode cL_isWell 212 = .ok (.iconst 0, 1) := by decide +kernel
theorem d_L_isWell_213 : decode cL_isWell 213 = .ok (.iload 5, 2) := by decide +kernel
theorem d_L_isWell_215 : decode cL_isWell 215 = .ok (.invokestatic 181, 3) := by decide +kernel
theorem d_L_isWell_218 : decode cL_isWell 218 = .ok (.invokestatic 87, 3) := by decide +kernel
theorem d_L_isWell_221 : decode cL_isWell 221 = .ok (.iload 5, 2) := by decide +kernel
theorem d_L_isWell_223 : decode cL_isWell 223 = .ok (.iconst 1, 1) := by decide +kernel
theorem d_L_isWell_224 : decode cL_isWell 224 = .ok (.iadd, 1) := by decide +kernel
theorem d_L_isWell_225 : decode cL_isWell 225 = .ok (.if_icmp .ne 7, 3) := by decide +kernel
theorem d_L_isWell_228 : decode cL_isWell 228 = .ok (.iconst 1, 1) := by decide +kernel
theorem d_L_isWell_229 : decode cL_isWell 229 = .ok (.goto 4, 3) := by decide +kernel
theorem d_L_isWell_232 : decode cL_isWell 232 = .ok (.iconst 0, 1) := by decide +kernel
theorem d_L_isWell_233 : decode cL_isWell 233 = .ok (.istore_n 3, 1) := by decide +kernel
theorem d_L_isWell_234 : decode cL_isWell 234 = .ok (.iinc 5 1, 3) := by decide +kernel
theorem d_L_isWell_237 : decode cL_isWell 237 = .ok (.goto (-44), 3) := by decide +kernel
theorem d_L_isWell_240 : decode cL_isWell 240 = .ok (.iload_n 3, 1) := by decide +kernel
theorem d_L_isWell_241 : decode cL_isWell 241 = .ok (.ifCond .eq 51, 3) := by decide +kernel
theorem d_L_isWell_244 : decode cL_isWell 244 = .ok (.aload_n 0, 1) := by decide +kernel
theorem d_L_isWell_245 : decode cL_isWell 245 = .ok (.invokestatic 188, 3) := by decide +kernel
theorem d_L_isWell_248 : decode cL_isWell 248 = .ok (.aload_n 0, 1) := by decide +kernel
theorem d_L_isWell_249 : decode cL_isWell 249 = .ok (.invokestatic 191, 3) := by decide +kernel
theorem d_L_isWell_252 : decode cL_isWell 252 = .ok (.if_icmp .ne 40, 3) := by decide +kernel
theorem d_L_isWell_255 : decode cL_isWell 255 = .ok (.aload_n 0, 1) := by decide +kernel
theorem d_L_isWell_256 : decode cL_isWell 256 = .ok (.invokestatic 188, 3) := by decide +kernel
theorem d_L_isWell_259 : decode cL_isWell 259 = .ok (.ldc 17, 2) := by decide +kernel
theorem d_L_isWell_261 : decode cL_isWell 261 = .ok (.if_icmp .eq 27, 3) := by decide +kernel
theorem d_L_isWell_264 : decode cL_isWell 264 = .ok (.aload_n 0, 1) := by decide +kernel
theorem d_L_isWell_265 : decode cL_isWell 265 = .ok (.invokestatic 188, 3) := by decide +kernel
theorem d_L_isWell_268 : decode cL_isWell 268 = .ok (.ifCond .lt 24, 3) := by decide +kernel
theorem d_L_isWell_271 : decode cL_isWell 271 = .ok (.aload_n 0, 1) := by decide +kernel
theorem d_L_isWell_272 : decode cL_isWell 272 = .ok (.invokestatic 188, 3) := by decide +kernel
theorem d_L_isWell_275 : decode cL_isWell 275 = .ok (.iload 4, 2) := by decide +kernel
theorem d_L_isWell_277 : decode cL_isWell 277 = .ok (.if_icmp .gt 15, 3) := by decide +kernel
theorem d_L_isWell_280 : decode cL_isWell 280 = .ok (.aload_n 0, 1) := by decide +kernel
theorem d_L_isWell_281 : decode cL_isWell 281 = .ok (.invokestatic 194, 3) := by decide +kernel
theorem d_L_isWell_284 : decode cL_isWell 284 = .ok (.iconst 1, 1) := by decide +kernel
theorem d_L_isWell_285 : decode cL_isWell 285 = .ok (.if_icmp .lt 7, 3) := by decide +kernel
theorem d_L_isWell_288 : decode cL_isWell 288 = .ok (.iconst 1, 1) := by decide +kernel
theorem d_L_isWell_289 : decode cL_isWell 289 = .ok (.goto 4, 3) := by decide +kernel
theorem d_L_isWell_292 : decode cL_isWell 292 = .ok (.iconst 0, 1) := by decide +kernel
theorem d_L_isWell_293 : decode cL_isWell 293 = .ok (.istore_n 3, 1) := by decide +kernel
theorem d_L_isWell_294 : decode cL_isWell 294 = .ok (.iinc 4 1, 3) := by decide +kernel
theorem d_L_isWell_297 : decode cL_isWell 297 = .ok (.goto (-234), 3) := by decide +kernel
theorem d_L_isWell_300 : decode cL_isWell 300 = .ok (.iload_n 3, 1) := by decide +kernel
theorem d_L_isWell_301 : decode cL_isWell 301 = .ok (.ifCond .eq 50, 3) := by decide +kernel
theorem d_L_isWell_304 : decode cL_isWell 304 = .ok (.iload_n 1, 1) := by decide +kernel
theorem d_L_isWell_305 : decode cL_isWell 305 = .ok (.aload_n 0, 1) := by decide +kernel
theorem d_L_isWell_306 : decode cL_isWell 306 = .ok (.invokevirtual 111, 3) := by decide +kernel
theorem d_L_isWell_309 : decode cL_isWell 309 = .ok (.if_icmp .ne 42, 3) := by decide +kernel
theorem d_L_isWell_312 : decode cL_isWell 312 = .ok (.aload_n 0, 1) := by decide +kernel
theorem d_L_isWell_313 : decode cL_isWell 313 = .ok (.iconst 0, 1) := by decide +kernel
theorem d_L_isWell_314 : decode cL_isWell 314 = .ok (.invokestatic 197, 3) := by decide +kernel
theorem d_L_isWell_317 : decode cL_isWell 317 = .ok (.aload_n 0, 1) := by decide +kernel
theorem d_L_isWell_318 : decode cL_isWell 318 = .ok (.invokevirtual 108, 3) := by decide +kernel
theorem d_L_isWell_321 : decode cL_isWell 321 = .ok (.if_icmp .ne 30, 3) := by decide +kernel
theorem d_L_isWell_324 : decode cL_isWell 324 = .ok (.aload_n 0, 1) := by decide +kernel
theorem d_L_isWell_325 : decode cL_isWell 325 = .ok (.invokevirtual 166, 3) := by decide +kernel
theorem d_L_isWell_328 : decode cL_isWell 328 = .ok (.iconst 1, 1) := by decide +kernel
theorem d_L_isWell_329 : decode cL_isWell 329 = .ok (.if_icmp .eq 22, 3) := by decide +kernel
theorem d_L_isWell_332 : decode cL_isWell 332 = .ok (.aload_n 0, 1) := by decide +kernel
theorem d_L_isWell_333 : decode cL_isWell 333 = .ok (.invokevirtual 163, 3) := by decide +kernel
theorem d_L_isWell_336 : decode cL_isWell 336 = .ok (.ifCond .gt 11, 3) := by decide +kernel
theorem d_L_isWell_339 : decode cL_isWell 339 = .ok (.iload_n 2, 1) := by decide +kernel
theorem d_L_isWell_340 : decode cL_isWell 340 = .ok (.aload_n 0, 1) := by decide +kernel
theorem d_L_isWell_341 : decode cL_isWell 341 = .ok (.invokevirtual 108, 3) := by decide +kernel
theorem d_L_isWell_344 : decode cL_isWell 344 = .ok (.if_icmp .ne 7, 3) := by decide +kernel
theorem d_L_isWell_347 : decode cL_isWell 347 = .ok (.iconst 1, 1) := by decide +kernel
theorem d_L_isWell_348 : decode cL_isWell 348 = .ok (.goto 4, 3) := by decide +kernel
theorem d_L_isWell_351 : decode cL_isWell 351 = .ok (.iconst 0, 1) := by decide +kernel
theorem d_L_isWell_352 : decode cL_isWell 352 = .ok (.ireturn, 1) := by decide +kernel
theorem d_L_law_0 : decode cL_law 0 = .ok (.new 10, 3) := by decide +kernel
theorem d_L_law_3 : decode cL_law 3 = .ok (.dup, 1) := by decide +kernel
theorem d_L_law_4 : decode cL_law 4 = .ok (.invokespecial 199, 3) := by decide +kernel
theorem d_L_law_7 : decode cL_law 7 = .ok (.astore_n 1, 1) := by decide +kernel
theorem d_L_law_8 : decode cL_law 8 = .ok (.new 10, 3) := by decide +kernel
theorem d_L_law_11 : decode cL_law 11 = .ok (.dup, 1) := by decide +kernel
theorem d_L_law_12 : decode cL_law 12 = .ok (.invokespecial 199, 3) := by decide +kernel
theorem d_L_law_15 : decode cL_law 15 = .ok (.astore_n 2, 1) := by decide +kernel
theorem d_L_law_16 : decode cL_law 16 = .ok (.iconst 1, 1) := by decide +kernel
theorem d_L_law_17 : decode cL_law 17 = .ok (.istore_n 3, 1) := by decide +kernel
theorem d_L_law_18 : decode cL_law 18 = .ok (.iconst 0, 1) := by decide +kernel
theorem d_L_law_19 : decode cL_law 19 = .ok (.istore 4, 2) := by decide +kernel
theorem d_L_law_21 : decode cL_law 21 = .ok (.iload 4, 2) := by decide +kernel
theorem d_L_law_23 : decode cL_law 23 = .ok (.bipush 60, 2) := by decide +kernel
theorem d_L_law_25 : decode cL_law 25 = .ok (.if_icmp .ge 72, 3) := by decide +kernel
theorem d_L_law_28 : decode cL_law 28 = .ok (.iload_n 3, 1) := by decide +kernel
theorem d_L_law_29 : decode cL_law 29 = .ok (.ifCond .eq 68, 3) := by decide +kernel
theorem d_L_law_32 : decode cL_law 32 = .ok (.aload_n 1, 1) := by decide +kernel
theorem d_L_law_33 : decode cL_law 33 = .ok (.aload_n 2, 1) := by decide +kernel
theorem d_L_law_34 : decode cL_law 34 = .ok (.aload_n 0, 1) := by decide +kernel
theorem d_L_law_35 : decode cL_law 35 = .ok (.iload 4, 2) := by decide +kernel
theorem d_L_law_37 : decode cL_law 37 = .ok (.invokestatic 200, 3) := by decide +kernel
theorem d_L_law_40 : decode cL_law 40 = .ok (.aload_n 0, 1) := by decide +kernel
theorem d_L_law_41 : decode cL_law 41 = .ok (.iload 4, 2) := by decide +kernel
theorem d_L_law_43 : decode cL_law 43 = .ok (.iconst 1, 1) := by decide +kernel
theorem d_L_law_44 : decode cL_law 44 = .ok (.iadd, 1) := by decide +kernel
theorem d_L_law_45 : decode cL_law 45 = .ok (.invokestatic 200, 3) := by decide +kernel
theorem d_L_law_48 : decode cL_law 48 = .ok (.iconst 2, 1) := by decide +kernel
theorem d_L_law_49 : decode cL_law 49 = .ok (.ishr, 1) := by decide +kernel
theorem d_L_law_50 : decode cL_law 50 = .ok (.invokestatic 204, 3) := by decide +kernel
theorem d_L_law_53 : decode cL_law 53 = .ok (.ifCond .eq 36, 3) := by decide +kernel
theorem d_L_law_56 : decode cL_law 56 = .ok (.iload 4, 2) := by decide +kernel
theorem d_L_law_58 : decode cL_law 58 = .ok (.bipush 6, 2) := by decide +kernel
theorem d_L_law_60 : decode cL_law 60 = .ok (.irem, 1) := by decide +kernel
theorem d_L_law_61 : decode cL_law 61 = .ok (.ifCond .gt 24, 3) := by decide +kernel
theorem d_L_law_64 : decode cL_law 64 = .ok (.aload_n 1, 1) := by decide +kernel
theorem d_L_law_65 : decode cL_law 65 = .ok (.invokestatic 207, 3) := by decide +kernel
theorem d_L_law_68 : decode cL_law 68 = .ok (.ifCond .eq 21, 3) := by decide +kernel
theorem d_L_law_71 : decode cL_law 71 = .ok (.aload_n 2, 1) := by decide +kernel
theorem d_L_law_72 : decode cL_law 72 = .ok (.invokevirtual 105, 3) := by decide +kernel
theorem d_L_law_75 : decode cL_law 75 = .ok (.ifCond .lt 14, 3) := by decide +kernel
theorem d_L_law_78 : decode cL_law 78 = .ok (.aload_n 1, 1) := by decide +kernel
theorem d_L_law_79 : decode cL_law 79 = .ok (.invokevirtual 105, 3) := by decide +kernel
theorem d_L_law_82 : decode cL_law 82 = .ok (.ifCond .lt 7, 3) := by decide +kernel
theorem d_L_law_85 : decode cL_law 85 = .ok (.iconst 1, 1) := by decide +kernel
theorem d_L_law_86 : decode cL_law 86 = .ok (.goto 4, 3) := by decide +kernel
theorem d_L_law_89 : decode cL_law 89 = .ok (.iconst 0, 1) := by decide +kernel
theorem d_L_law_90 : decode cL_law 90 = .ok (.istore_n 3, 1) := by decide +kernel
theorem d_L_law_91 : decode cL_law 91 = .ok (.iinc 4 1, 3) := by decide +kernel
theorem d_L_law_94 : decode cL_law 94 = .ok (.goto (-73), 3) := by decide +kernel
theorem d_L_law_97 : decode cL_law 97 = .ok (.iload_n 3, 1) := by decide +kernel
theorem d_L_law_98 : decode cL_law 98 = .ok (.ifCond .eq 36, 3) := by decide +kernel
theorem d_L_law_101 : decode cL_law 101 = .ok (.aload_n 1, 1) := by decide +kernel
theorem d_L_law_102 : decode cL_law 102 = .ok (.invokestatic 207, 3) := by decide +kernel
theorem d_L_law_105 : decode cL_law 105 = .ok (.ifCond .eq 29, 3) := by decide +kernel
theorem d_L_law_108 : decode cL_law 108 = .ok (.aload_n 1, 1) := by decide +kernel
theorem d_L_law_109 : decode cL_law 109 = .ok (.invokevirtual 105, 3) := by decide +kernel
theorem d_L_law_112 : decode cL_law 112 = .ok (.ifCond .lt 22, 3) := by decide +kernel
theorem d_L_law_115 : decode cL_law 115 = .ok (.aload_n 2, 1) := by decide +kernel
theorem d_L_law_116 : decode cL_law 116 = .ok (.invokevirtual 105, 3) := by decide +kernel
theorem d_L_law_119 : decode cL_law 119 = .ok (.ifCond .lt 15, 3) := by decide +kernel
theorem d_L_law_122 : decode cL_law 122 = .ok (.aload_n 1, 1) := by decide +kernel
theorem d_L_law_123 : decode cL_law 123 = .ok (.aload_n 2, 1) := by decide +kernel
theorem d_L_law_124 : decode cL_law 124 = .ok (.invokestatic 211, 3) := by decide +kernel
theorem d_L_law_127 : decode cL_law 127 = .ok (.ifCond .eq 7, 3) := by decide +kernel
theorem d_L_law_130 : decode cL_law 130 = .ok (.iconst 1, 1) := by decide +kernel
theorem d_L_law_131 : decode cL_law 131 = .ok (.goto 4, 3) := by decide +kernel
theorem d_L_law_134 : decode cL_law 134 = .ok (.iconst 0, 1) := by decide +kernel
theorem d_L_law_135 : decode cL_law 135 = .ok (.ireturn, 1) := by decide +kernel
