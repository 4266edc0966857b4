theorem d_10_init_0 : decode cX10_init 0 = .ok (.aload_n 0, 1) := by decide +kernel
theorem d_10_init_1 : decode cX10_init 1 = .ok (.invokespecial 1, 3) := by decide +kernel
theorem d_10_init_4 : decode cX10_init 4 = .ok (.aload_n 0, 1) := by decide +kernel
theorem d_10_init_5 : decode cX10_init 5 = .ok (.sipush 1676, 3) := by decide +kernel
theorem d_10_init_8 : decode cX10_init 8 = .ok (.newarray .int, 2) := by decide +kernel
theorem d_10_init_10 : decode cX10_init 10 = .ok (.putfield 7, 3) := by decide +kernel
theorem d_10_init_13 : decode cX10_init 13 = .ok (.aload_n 0, 1) := by decide +kernel
theorem d_10_init_14 : decode cX10_init 14 = .ok (.sipush 1676, 3) := by decide +kernel
theorem d_10_init_17 : decode cX10_init 17 = .ok (.newarray .int, 2) := by decide +kernel
theorem d_10_init_19 : decode cX10_init 19 = .ok (.putfield 13, 3) := by decide +kernel
theorem d_10_init_22 : decode cX10_init 22 = .ok (.aload_n 0, 1) := by decide +kernel
theorem d_10_init_23 : decode cX10_init 23 = .ok (.sipush 6704, 3) := by decide +kernel
theorem d_10_init_26 : decode cX10_init 26 = .ok (.newarray .int, 2) := by decide +kernel
theorem d_10_init_28 : decode cX10_init 28 = .ok (.putfield 16, 3) := by decide +kernel
theorem d_10_init_31 : decode cX10_init 31 = .ok (.aload_n 0, 1) := by decide +kernel
theorem d_10_init_32 : decode cX10_init 32 = .ok (.sipush 1676, 3) := by decide +kernel
theorem d_10_init_35 : decode cX10_init 35 = .ok (.newarray .int, 2) := by decide +kernel
theorem d_10_init_37 : decode cX10_init 37 = .ok (.putfield 19, 3) := by decide +kernel
theorem d_10_init_40 : decode cX10_init 40 = .ok (.aload_n 0, 1) := by decide +kernel
theorem d_10_init_41 : decode cX10_init 41 = .ok (.bipush 17, 2) := by decide +kernel
theorem d_10_init_43 : decode cX10_init 43 = .ok (.newarray .int, 2) := by decide +kernel
theorem d_10_init_45 : decode cX10_init 45 = .ok (.putfield 22, 3) := by decide +kernel
theorem d_10_init_48 : decode cX10_init 48 = .ok (.aload_n 0, 1) := by decide +kernel
theorem d_10_init_49 : decode cX10_init 49 = .ok (.bipush 60, 2) := by decide +kernel
theorem d_10_init_51 : decode cX10_init 51 = .ok (.newarray .int, 2) := by decide +kernel
theorem d_10_init_53 : decode cX10_init 53 = .ok (.putfield 25, 3) := by decide +kernel
theorem d_10_init_56 : decode cX10_init 56 = .ok (.aload_n 0, 1) := by decide +kernel
theorem d_10_init_57 : decode cX10_init 57 = .ok (.bipush 17, 2) := by decide +kernel
theorem d_10_init_59 : decode cX10_init 59 = .ok (.newarray .int, 2) := by decide +kernel
theorem d_10_init_61 : decode cX10_init 61 = .ok (.putfield 28, 3) := by decide +kernel
theorem d_10_init_64 : decode cX10_init 64 = .ok (.aload_n 0, 1) := by decide +kernel
theorem d_10_init_65 : decode cX10_init 65 = .ok (.bipush 17, 2) := by decide +kernel
theorem d_10_init_67 : decode cX10_init 67 = .ok (.newarray .int, 2) := by decide +kernel
theorem d_10_init_69 : decode cX10_init 69 = .ok (.putfield 31, 3) := by decide +kernel
theorem d_10_init_72 : decode cX10_init 72 = .ok (.aload_n 0, 1) := by decide +kernel
theorem d_10_init_73 : decode cX10_init 73 = .ok (.bipush 17, 2) := by decide +kernel
theorem d_10_init_75 : decode cX10_init 75 = .ok (.newarray .int, 2) := by decide +kernel
theorem d_10_init_77 : decode cX10_init 77 = .ok (.putfield 34, 3) := by decide +kernel
theorem d_10_init_80 : decode cX10_init 80 = .ok (.aload_n 0, 1) := by decide +kernel
theorem d_10_init_81 : decode cX10_init 81 = .ok (.sipush 374, 3) := by decide +kernel
theorem d_10_init_84 : decode cX10_init 84 = .ok (.newarray .int, 2) := by decide +kernel
theorem d_10_init_86 : decode cX10_init 86 = .ok (.putfield 37, 3) := by decide +kernel
theorem d_10_init_89 : decode cX10_init 89 = .ok (.aload_n 0, 1) := by decide +kernel
theorem d_10_init_90 : decode cX10_init 90 = .ok (.getfield 7, 3) := by decide +kernel
theorem d_10_init_93 : decode cX10_init 93 = .ok (.iconst 0, 1) := by decide +kernel
theorem d_10_init_94 : decode cX10_init 94 = .ok (.iconst 1, 1) := by decide +kernel
theorem d_10_init_95 : decode cX10_init 95 = .ok (.iastore, 1) := by decide +kernel
theorem d_10_init_96 : decode cX10_init 96 = .ok (.aload_n 0, 1) := by decide +kernel
theorem d_10_init_97 : decode cX10_init 97 = .ok (.getfield 7, 3) := by decide +kernel
theorem d_10_init_100 : decode cX10_init 100 = .ok (.bipush 24, 2) := by decide +kernel
theorem d_10_init_102 : decode cX10_init 102 = .ok (.iconst 1, 1) := by decide +kernel
theorem d_10_init_103 : decode cX10_init 103 = .ok (.iastore, 1) := by decide +kernel
theorem d_10_init_104 : decode cX10_init 104 = .ok (.aload_n 0, 1) := by decide +kernel
theorem d_10_init_105 : decode cX10_init 105 = .ok (.getfield 7, 3) := by decide +kernel
theorem d_10_init_108 : decode cX10_init 108 = .ok (.bipush 25, 2) := by decide +kernel
theorem d_10_init_110 : decode cX10_init 110 = .ok (.bipush 18, 2) := by decide +kernel
theorem d_10_init_112 : decode cX10_init 112 = .ok (.iastore, 1) := by decide +kernel
theorem d_10_init_113 : decode cX10_init 113 = .ok (.return_, 1) := by decide +kernel
theorem d_10_thrown_0 : decode cX10_thrown 0 = .ok (.aload_n 0, 1) := by decide +kernel
theorem d_10_thrown_1 : decode cX10_thrown 1 = .ok (.getfield 40, 3) := by decide +kernel
theorem d_10_thrown_4 : decode cX10_thrown 4 = .ok (.ireturn, 1) := by decide +kernel
theorem d_10_fails_0 : decode cX10_fails 0 = .ok (.aload_n 0, 1) := by decide +kernel
theorem d_10_fails_1 : decode cX10_fails 1 = .ok (.iload_n 1, 1) := by decide +kernel
theorem d_10_fails_2 : decode cX10_fails 2 = .ok (.putfield 40, 3) := by decide +kernel
theorem d_10_fails_5 : decode cX10_fails 5 = .ok (.iconst 0, 1) := by decide +kernel
theorem d_10_fails_6 : decode cX10_fails 6 = .ok (.ireturn, 1) := by decide +kernel
theorem d_10_in_0 : decode cX10_in 0 = .ok (.lload_n 0, 1) := by decide +kernel
theorem d_10_in_1 : decode cX10_in 1 = .ok (.lload_n 2, 1) := by decide +kernel
theorem d_10_in_2 : decode cX10_in 2 = .ok (.lcmp, 1) := by decide +kernel
theorem d_10_in_3 : decode cX10_in 3 = .ok (.ifCond .lt 14, 3) := by decide +kernel
theorem d_10_in_6 : decode cX10_in 6 = .ok (.lload_n 0, 1) := by decide +kernel
theorem d_10_in_7 : decode cX10_in 7 = .ok (.lload 4, 2) := by decide +kernel
theorem d_10_in_9 : decode cX10_in 9 = .ok (.lcmp, 1) := by decide +kernel
theorem d_10_in_10 : decode cX10_in 10 = .ok (.ifCond .gt 7, 3) := by decide +kernel
theorem d_10_in_13 : decode cX10_in 13 = .ok (.iconst 1, 1) := by decide +kernel
theorem d_10_in_14 : decode cX10_in 14 = .ok (.goto 4, 3) := by decide +kernel
theorem d_10_in_17 : decode cX10_in 17 = .ok (.iconst 0, 1) := by decide +kernel
theorem d_10_in_18 : decode cX10_in 18 = .ok (.ireturn, 1) := by decide +kernel
theorem d_10_records_0 : decode cX10_records 0 = .ok (.aload_n 0, 1) := by decide +kernel
theorem d_10_records_1 : decode cX10_records 1 = .ok (.iconst 0, 1) := by decide +kernel
theorem d_10_records_2 : decode cX10_records 2 = .ok (.putfield 40, 3) := by decide +kernel
theorem d_10_records_5 : decode cX10_records 5 = .ok (.aload_n 0, 1) := by decide +kernel
theorem d_10_records_6 : decode cX10_records 6 = .ok (.getfield 44, 3) := by decide +kernel
theorem d_10_records_9 : decode cX10_records 9 = .ok (.iconst 4, 1) := by decide +kernel
theorem d_10_records_10 : decode cX10_records 10 = .ok (.if_icmp .ne 44, 3) := by decide +kernel
theorem d_10_records_13 : decode cX10_records 13 = .ok (.iconst 0, 1) := by decide +kernel
theorem d_10_records_14 : decode cX10_records 14 = .ok (.istore_n 1, 1) := by decide +kernel
theorem d_10_records_15 : decode cX10_records 15 = .ok (.iload_n 1, 1) := by decide +kernel
theorem d_10_records_16 : decode cX10_records 16 = .ok (.sipush 5028, 3) := by decide +kernel
theorem d_10_records_19 : decode cX10_records 19 = .ok (.if_icmp .ge 25, 3) := by decide +kernel
theorem d_10_records_22 : decode cX10_records 22 = .ok (.aload_n 0, 1) := by decide +kernel
theorem d_10_records_23 : decode cX10_records 23 = .ok (.getfield 16, 3) := by decide +kernel
theorem d_10_records_26 : decode cX10_records 26 = .ok (.iload_n 1, 1) := by decide +kernel
theorem d_10_records_27 : decode cX10_records 27 = .ok (.aload_n 0, 1) := by decide +kernel
theorem d_10_records_28 : decode cX10_records 28 = .ok (.getfield 16, 3) := by decide +kernel
theorem d_10_records_31 : decode cX10_records 31 = .ok (.iload_n 1, 1) := by decide +kernel
theorem d_10_records_32 : decode cX10_records 32 = .ok (.sipush 1676, 3) := by decide +kernel
theorem d_10_records_35 : decode cX10_records 35 = .ok (.iadd, 1) := by decide +kernel
theorem d_10_records_36 : decode cX10_records 36 = .ok (.iaload, 1) := by decide +kernel
theorem d_10_records_37 : decode cX10_records 37 = .ok (.iastore, 1) := by decide +kernel
theorem d_10_records_38 : decode cX10_records 38 = .ok (.iinc 1 1, 3) := by decide +kernel
theorem d_10_records_41 : decode cX10_records 41 = .ok (.goto (-26), 3) := by decide +kernel
theorem d_10_records_44 : decode cX10_records 44 = .ok (.aload_n 0, 1) := by decide +kernel
theorem d_10_records_45 : decode cX10_records 45 = .ok (.dup, 1) := by decide +kernel
theorem d_10_records_46 : decode cX10_records 46 = .ok (.getfield 44, 3) := by decide +kernel
theorem d_10_records_49 : decode cX10_records 49 = .ok (.iconst 1, 1) := by decide +kernel
theorem d_10_records_50 : decode cX10_records 50 = .ok (.isub, 1) := by decide +kernel
theorem d_10_records_51 : decode cX10_records 51 = .ok (.putfield 44, 3) := by decide +kernel
theorem d_10_records_54 : decode cX10_records 54 = .ok (.iconst 0, 1) := by decide +kernel
theorem d_10_records_55 : decode cX10_records 55 = .ok (.istore_n 1, 1) := by decide +kernel
theorem d_10_records_56 : decode cX10_records 56 = .ok (.iload_n 1, 1) := by decide +kernel
theorem d_10_records_57 : decode cX10_records 57 = .ok (.sipush 1676, 3) := by decide +kernel
theorem d_10_records_60 : decode cX10_records 60 = .ok (.if_icmp .ge 30, 3) := by decide +kernel
theorem d_10_records_63 : decode cX10_records 63 = .ok (.aload_n 0, 1) := by decide +kernel
theorem d_10_records_64 : decode cX10_records 64 = .ok (.getfield 16, 3) := by decide +kernel
theorem d_10_records_67 : decode cX10_records 67 = .ok (.sipush 1676, 3) := by decide +kernel
theorem d_10_records_70 : decode cX10_records 70 = .ok (.aload_n 0, 1) := by decide +kernel
theorem d_10_records_71 : decode cX10_records 71 = .ok (.getfield 44, 3) := by decide +kernel
theorem d_10_records_74 : decode cX10_records 74 = .ok (.imul, 1) := by decide +kernel
theorem d_10_records_75 : decode cX10_records 75 = .ok (.iload_n 1, 1) := by decide +kernel
theorem d_10_records_76 : decode cX10_records 76 = .ok (.iadd, 1) := by decide +kernel
theorem d_10_records_77 : decode cX10_records 77 = .ok (.aload_n 0, 1) := by decide +kernel
theorem d_10_records_78 : decode cX10_records 78 = .ok (.getfield 7, 3) := by decide +kernel
theorem d_10_records_81 : decode cX10_records 81 = .ok (.iload_n 1, 1) := by decide +kernel
theorem d_10_records_82 : decode cX10_records 82 = .ok (.iaload, 1) := by decide +kernel
theorem d_10_records_83 : decode cX10_records 83 = .ok (.iastore, 1) := by decide +kernel
theorem d_10_records_84 : decode cX10_records 84 = .ok (.iinc 1 1, 3) := by decide +kernel
theorem d_10_records_87 : decode cX10_records 87 = .ok (.goto (-31), 3) := by decide +kernel
theorem d_10_records_90 : decode cX10_records 90 = .ok (.aload_n 0, 1) := by decide +kernel
theorem d_10_records_91 : decode cX10_records 91 = .ok (.dup, 1) := by decide +kernel
theorem d_10_records_92 : decode cX10_records 92 = .ok (.getfield 44, 3) := by decide +kernel
theorem d_10_records_95 : decode cX10_records 95 = .ok (.iconst 1, 1) := by decide +kernel
theorem d_10_records_96 : decode cX10_records 96 = .ok (.iadd, 1) := by decide +kernel
theorem d_10_records_97 : decode cX10_records 97 = .ok (.putfield 44, 3) := by decide +kernel
theorem d_10_records_100 : decode cX10_records 100 = .ok (.return_, 1) := by decide +kernel
theorem d_10_told_0 : decode cX10_told 0 = .ok (.aload_n 0, 1) := by decide +kernel
theorem d_10_told_1 : decode cX10_told 1 = .ok (.iconst 0, 1) := by decide +kernel
theorem d_10_told_2 : decode cX10_told 2 = .ok (.putfield 40, 3) := by decide +kernel
theorem d_10_told_5 : decode cX10_told 5 = .ok (.iload_n 1, 1) := by decide +kernel
theorem d_10_told_6 : decode cX10_told 6 = .ok (.ireturn, 1) := by decide +kernel
theorem d_10_isNoun_0 : decode cX10_isNoun 0 = .ok (.iload_n 1, 1) := by decide +kernel
theorem d_10_isNoun_1 : decode cX10_isNoun 1 = .ok (.i2l, 1) := by decide +kernel
theorem d_10_isNoun_2 : decode cX10_isNoun 2 = .ok (.lconst 0, 1) := by decide +kernel
theorem d_10_isNoun_3 : decode cX10_isNoun 3 = .ok (.aload_n 0, 1) := by decide +kernel
theorem d_10_isNoun_4 : decode cX10_isNoun 4 = .ok (.getfield 7, 3) := by decide +kernel
theorem d_10_isNoun_7 : decode cX10_isNoun 7 = .ok (.iconst 2, 1) := by decide +kernel
theorem d_10_isNoun_8 : decode cX10_isNoun 8 = .ok (.iaload, 1) := by decide +kernel
theorem d_10_isNoun_9 : decode cX10_isNoun 9 = .ok (.i2l, 1) := by decide +kernel
theorem d_10_isNoun_10 : decode cX10_isNoun 10 = .ok (.lconst 1, 1) := by decide +kernel
theorem d_10_isNoun_11 : decode cX10_isNoun 11 = .ok (.lsub, 1) := by decide +kernel
theorem d_10_isNoun_12 : decode cX10_isNoun 12 = .ok (.invokestatic 47, 3) := by decide +kernel
theorem d_10_isNoun_15 : decode cX10_isNoun 15 = .ok (.ireturn, 1) := by decide +kernel
theorem d_10_isDie_0 : decode cX10_isDie 0 = .ok (.iload_n 1, 1) := by decide +kernel
theorem d_10_isDie_1 : decode cX10_isDie 1 = .ok (.i2l, 1) := by decide +kernel
theorem d_10_isDie_2 : decode cX10_isDie 2 = .ok (.lconst 0, 1) := by decide +kernel
theorem d_10_isDie_3 : decode cX10_isDie 3 = .ok (.aload_n 0, 1) := by decide +kernel
theorem d_10_isDie_4 : decode cX10_isDie 4 = .ok (.getfield 7, 3) := by decide +kernel
theorem d_10_isDie_7 : decode cX10_isDie 7 = .ok (.iconst 0, 1) := by decide +kernel
theorem d_10_isDie_8 : decode cX10_isDie 8 = .ok (.iaload, 1) := by decide +kernel
theorem d_10_isDie_9 : decode cX10_isDie 9 = .ok (.i2l, 1) := by decide +kernel
theorem d_10_isDie_10 : decode cX10_isDie 10 = .ok (.lconst 1, 1) := by decide +kernel
theorem d_10_isDie_11 : decode cX10_isDie 11 = .ok (.lsub, 1) := by decide +kernel
theorem d_10_isDie_12 : decode cX10_isDie 12 = .ok (.invokestatic 47, 3) := by decide +kernel
theorem d_10_isDie_15 : decode cX10_isDie 15 = .ok (.ireturn, 1) := by decide +kernel
theorem d_10_copies_0 : decode cX10_copies 0 = .ok (.iconst 0, 1) := by decide +kernel
theorem d_10_copies_1 : decode cX10_copies 1 = .ok (.istore 4, 2) := by decide +kernel
theorem d_10_copies_3 : decode cX10_copies 3 = .ok (.iload 4, 2) := by decide +kernel
theorem d_10_copies_5 : decode cX10_copies 5 = .ok (.bipush 17, 2) := by decide +kernel
theorem d_10_copies_7 : decode cX10_copies 7 = .ok (.if_icmp .ge 33, 3) := by decide +kernel
theorem d_10_copies_10 : decode cX10_copies 10 = .ok (.aload_n 2, 1) := by decide +kernel
theorem d_10_copies_11 : decode cX10_copies 11 = .ok (.iload_n 3, 1) := by decide +kernel
theorem d_10_copies_12 : decode cX10_copies 12 = .ok (.iload 4, 2) := by decide +kernel
theorem d_10_copies_14 : decode cX10_copies 14 = .ok (.iadd, 1) := by decide +kernel
theorem d_10_copies_15 : decode cX10_copies 15 = .ok (.iload 4, 2) := by decide +kernel
theorem d_10_copies_17 : decode cX10_copies 17 = .ok (.aload_n 0, 1) := by decide +kernel
theorem d_10_copies_18 : decode cX10_copies 18 = .ok (.iload_n 1, 1) := by decide +kernel
theorem d_10_copies_19 : decode cX10_copies 19 = .ok (.iaload, 1) := by decide +kernel
theorem d_10_copies_20 : decode cX10_copies 20 = .ok (.if_icmp .gt 12, 3) := by decide +kernel
theorem d_10_copies_23 : decode cX10_copies 23 = .ok (.aload_n 0, 1) := by decide +kernel
theorem d_10_copies_24 : decode cX10_copies 24 = .ok (.iload_n 1, 1) := by decide +kernel
theorem d_10_copies_25 : decode cX10_copies 25 = .ok (.iload 4, 2) := by decide +kernel
theorem d_10_copies_27 : decode cX10_copies 27 = .ok (.iadd, 1) := by decide +kernel
theorem d_10_copies_28 : decode cX10_copies 28 = .ok (.iaload, 1) := by decide +kernel
theorem d_10_copies_29 : decode cX10_copies 29 = .ok (.goto 4, 3) := by decide +kernel
theorem d_10_copies_32 : decode cX10_copies 32 = .ok (.iconst 0, 1) := by decide +kernel
theorem d_10_copies_33 : decode cX10_copies 33 = .ok (.iastore, 1) := by decide +kernel
theorem d_10_copies_34 : decode cX10_copies 34 = .ok (.iinc 4 1, 3) := by decide +kernel
theorem d_10_copies_37 : decode cX10_copies 37 = .ok (.goto (-34), 3) := by decide +kernel
theorem d_10_copies_40 : decode cX10_copies 40 = .ok (.return_, 1) := by decide +kernel
theorem d_10_areSame_0 : decode cX10_areSame 0 = .ok (.iconst 1, 1) := by decide +kernel
theorem d_10_areSame_1 : decode cX10_areSame 1 = .ok (.istore 4, 2) := by decide +kernel
theorem d_10_areSame_3 : decode cX10_areSame 3 = .ok (.iconst 0, 1) := by decide +kernel
theorem d_10_areSame_4 : decode cX10_areSame 4 = .ok (.istore 5, 2) := by decide +kernel
theorem d_10_areSame_6 : decode cX10_areSame 6 = .ok (.iload 5, 2) := by decide +kernel
theorem d_10_areSame_8 : decode cX10_areSame 8 = .ok (.aload_n 0, 1) := by decide +kernel
theorem d_10_areSame_9 : decode cX10_areSame 9 = .ok (.iload_n 1, 1) := by decide +kernel
theorem d_10_areSame_10 : decode cX10_areSame 10 = .ok (.iaload, 1) := by decide +kernel
theorem d_10_areSame_11 : decode cX10_areSame 11 = .ok (.if_icmp .gt 43, 3) := by decide +kernel
theorem d_10_areSame_14 : decode cX10_areSame 14 = .ok (.iload 5, 2) := by decide +kernel
theorem d_10_areSame_16 : decode cX10_areSame 16 = .ok (.bipush 17, 2) := by decide +kernel
theorem d_10_areSame_18 : decode cX10_areSame 18 = .ok (.if_icmp .ge 36, 3) := by decide +kernel
theorem d_10_areSame_21 : decode cX10_areSame 21 = .ok (.iload 4, 2) := by decide +kernel
theorem d_10_areSame_23 : decode cX10_areSame 23 = .ok (.ifCond .eq 22, 3) := by decide +kernel
theorem d_10_areSame_26 : decode cX10_areSame 26 = .ok (.aload_n 0, 1) := by decide +kernel
theorem d_10_areSame_27 : decode cX10_areSame 27 = .ok (.iload_n 1, 1) := by decide +kernel
theorem d_10_areSame_28 : decode cX10_areSame 28 = .ok (.iload 5, 2) := by decide +kernel
theorem d_10_areSame_30 : decode cX10_areSame 30 = .ok (.iadd, 1) := by decide +kernel
theorem d_10_areSame_31 : decode cX10_areSame 31 = .ok (.iaload, 1) := by decide +kernel
theorem d_10_areSame_32 : decode cX10_areSame 32 = .ok (.aload_n 2, 1) := by decide +kernel
theorem d_10_areSame_33 : decode cX10_areSame 33 = .ok (.iload_n 3, 1) := by decide +kernel
theorem d_10_areSame_34 : decode cX10_areSame 34 = .ok (.iload 5, 2) := by decide +kernel
theorem d_10_areSame_36 : decode cX10_areSame 36 = .ok (.iadd, 1) := by decide +kernel
theorem d_10_areSame_37 : decode cX10_areSame 37 = .ok (.iaload, 1) := by decide +kernel
theorem d_10_areSame_38 : decode cX10_areSame 38 = .ok (.if_icmp .ne 7, 3) := by decide +kernel
theorem d_10_areSame_41 : decode cX10_areSame 41 = .ok (.iconst 1, 1) := by decide +kernel
theorem d_10_areSame_42 : decode cX10_areSame 42 = .ok (.goto 4, 3) := by decide +kernel
theorem d_10_areSame_45 : decode cX10_areSame 45 = .ok (.iconst 0, 1) := by decide +kernel
theorem d_10_areSame_46 : decode cX10_areSame 46 = .ok (.istore 4, 2) := by decide +kernel
theorem d_10_areSame_48 : decode cX10_areSame 48 = .ok (.iinc 5 1, 3) := by decide +kernel
theorem d_10_areSame_51 : decode cX10_areSame 51 = .ok (.goto (-45), 3) := by decide +kernel
theorem d_10_areSame_54 : decode cX10_areSame 54 = .ok (.iload 4, 2) := by decide +kernel
theorem d_10_areSame_56 : decode cX10_areSame 56 = .ok (.ireturn, 1) := by decide +kernel
theorem d_10_endsWith_0 : decode cX10_endsWith 0 = .ok (.aload_n 0, 1) := by decide +kernel
theorem d_10_endsWith_1 : decode cX10_endsWith 1 = .ok (.iload_n 1, 1) := by decide +kernel
theorem d_10_endsWith_2 : decode cX10_endsWith 2 = .ok (.iaload, 1) := by decide +kernel
theorem d_10_endsWith_3 : decode cX10_endsWith 3 = .ok (.aload_n 2, 1) := by decide +kernel
theorem d_10_endsWith_4 : decode cX10_endsWith 4 = .ok (.iload_n 3, 1) := by decide +kernel
theorem d_10_endsWith_5 : decode cX10_endsWith 5 = .ok (.iaload, 1) := by decide +kernel
theorem d_10_endsWith_6 : decode cX10_endsWith 6 = .ok (.if_icmp .lt 7, 3) := by decide +kernel
theorem d_10_endsWith_9 : decode cX10_endsWith 9 = .ok (.iconst 1, 1) := by decide +kernel
theorem d_10_endsWith_10 : decode cX10_endsWith 10 = .ok (.goto 4, 3) := by decide +kernel
theorem d_10_endsWith_13 : decode cX10_endsWith 13 = .ok (.iconst 0, 1) := by decide +kernel
theorem d_10_endsWith_14 : decode cX10_endsWith 14 = .ok (.istore 4, 2) := by decide +kernel
theorem d_10_endsWith_16 : decode cX10_endsWith 16 = .ok (.iconst 0, 1) := by decide +kernel
theorem d_10_endsWith_17 : decode cX10_endsWith 17 = .ok (.istore 5, 2) := by decide +kernel
theorem d_10_endsWith_19 : decode cX10_endsWith 19 = .ok (.iload 5, 2) := by decide +kernel
theorem d_10_endsWith_21 : decode cX10_endsWith 21 = .ok (.aload_n 2, 1) := by decide +kernel
theorem d_10_endsWith_22 : decode cX10_endsWith 22 = .ok (.iload_n 3, 1) := by decide +kernel
theorem d_10_endsWith_23 : decode cX10_endsWith 23 = .ok (.iaload, 1) := by decide +kernel
theorem d_10_endsWith_24 : decode cX10_endsWith 24 = .ok (.if_icmp .ge 44, 3) := by decide +kernel
theorem d_10_endsWith_27 : decode cX10_endsWith 27 = .ok (.iload 4, 2) := by decide +kernel
theorem d_10_endsWith_29 : decode cX10_endsWith 29 = .ok (.ifCond .eq 39, 3) := by decide +kernel
theorem d_10_endsWith_32 : decode cX10_endsWith 32 = .ok (.aload_n 0, 1) := by decide +kernel
theorem d_10_endsWith_33 : decode cX10_endsWith 33 = .ok (.iload_n 1, 1) := by decide +kernel
theorem d_10_endsWith_34 : decode cX10_endsWith 34 = .ok (.aload_n 0, 1) := by decide +kernel
theorem d_10_endsWith_35 : decode cX10_endsWith 35 = .ok (.iload_n 1, 1) := by decide +kernel
theorem d_10_endsWith_36 : decode cX10_endsWith 36 = .ok (.iaload, 1) := by decide +kernel
theorem d_10_endsWith_37 : decode cX10_endsWith 37 = .ok (.iadd, 1) := by decide +kernel
theorem d_10_endsWith_38 : decode cX10_endsWith 38 = .ok (.iload 5, 2) := by decide +kernel
theorem d_10_endsWith_40 : decode cX10_endsWith 40 = .ok (.isub, 1) := by decide +kernel
theorem d_10_endsWith_41 : decode cX10_endsWith 41 = .ok (.iaload, 1) := by decide +kernel
theorem d_10_endsWith_42 : decode cX10_endsWith 42 = .ok (.aload_n 2, 1) := by decide +kernel
theorem d_10_endsWith_43 : decode cX10_endsWith 43 = .ok (.iload_n 3, 1) := by decide +kernel
theorem d_10_endsWith_44 : decode cX10_endsWith 44 = .ok (.aload_n 2, 1) := by decide +kernel
theorem d_10_endsWith_45 : decode cX10_endsWith 45 = .ok (.iload_n 3, 1) := by decide +kernel
theorem d_10_endsWith_46 : decode cX10_endsWith 46 = .ok (.iaload, 1) := by decide +kernel
theorem d_10_endsWith_47 : decode cX10_endsWith 47 = .ok (.iadd, 1) := by decide +kernel
theorem d_10_endsWith_48 : decode cX10_endsWith 48 = .ok (.iload 5, 2) := by decide +kernel
theorem d_10_endsWith_50 : decode cX10_endsWith 50 = .ok (.isub, 1) := by decide +kernel
theorem d_10_endsWith_51 : decode cX10_endsWith 51 = .ok (.iaload, 1) := by decide +kernel
theorem d_10_endsWith_52 : decode cX10_endsWith 52 = .ok (.if_icmp .ne 7, 3) := by decide +kernel
theorem d_10_endsWith_55 : decode cX10_endsWith 55 = .ok (.iconst 1, 1) := by decide +kernel
theorem d_10_endsWith_56 : decode cX10_endsWith 56 = .ok (.goto 4, 3) := by decide +kernel
theorem d_10_endsWith_59 : decode cX10_endsWith 59 = .ok (.iconst 0, 1) := by decide +kernel
theorem d_10_endsWith_60 : decode cX10_endsWith 60 = .ok (.istore 4, 2) := by decide +kernel
theorem d_10_endsWith_62 : decode cX10_endsWith 62 = .ok (.iinc 5 1, 3) := by decide +kernel
theorem d_10_endsWith_65 : decode cX10_endsWith 65 = .ok (.goto (-46), 3) := by decide +kernel
theorem d_10_endsWith_68 : decode cX10_endsWith 68 = .ok (.iload 4, 2) := by decide +kernel
theorem d_10_endsWith_70 : decode cX10_endsWith 70 = .ok (.ireturn, 1) := by decide +kernel
theorem d_10_isVowel_0 : decode cX10_isVowel 0 = .ok (.iload_n 0, 1) := by decide +kernel
theorem d_10_isVowel_1 : decode cX10_isVowel 1 = .ok (.ifCond .eq 26, 3) := by decide +kernel
theorem d_10_isVowel_4 : decode cX10_isVowel 4 = .ok (.iload_n 0, 1) := by decide +kernel
theorem d_10_isVowel_5 : decode cX10_isVowel 5 = .ok (.iconst 4, 1) := by decide +kernel
theorem d_10_isVowel_6 : decode cX10_isVowel 6 = .ok (.if_icmp .eq 21, 3) := by decide +kernel
theorem d_10_isVowel_9 : decode cX10_isVowel 9 = .ok (.iload_n 0, 1) := by decide +kernel
theorem d_10_isVowel_10 : decode cX10_isVowel 10 = .ok (.bipush 8, 2) := by decide +kernel
theorem d_10_isVowel_12 : decode cX10_isVowel 12 = .ok (.if_icmp .eq 15, 3) := by decide +kernel
theorem d_10_isVowel_15 : decode cX10_isVowel 15 = .ok (.iload_n 0, 1) := by decide +kernel
theorem d_10_isVowel_16 : decode cX10_isVowel 16 = .ok (.bipush 14, 2) := by decide +kernel
theorem d_10_isVowel_18 : decode cX10_isVowel 18 = .ok (.if_icmp .eq 9, 3) := by decide +kernel
theorem d_10_isVowel_21 : decode cX10_isVowel 21 = .ok (.iload_n 0, 1) := by decide +kernel
theorem d_10_isVowel_22 : decode cX10_isVowel 22 = .ok (.bipush 20, 2) := by decide +kernel
theorem d_10_isVowel_24 : decode cX10_isVowel 24 = .ok (.if_icmp .ne 7, 3) := by decide +kernel
theorem d_10_isVowel_27 : decode cX10_isVowel 27 = .ok (.iconst 1, 1) := by decide +kernel
theorem d_10_isVowel_28 : decode cX10_isVowel 28 = .ok (.goto 4, 3) := by decide +kernel
theorem d_10_isVowel_31 : decode cX10_isVowel 31 = .ok (.iconst 0, 1) := by decide +kernel
theorem d_10_isVowel_32 : decode cX10_isVowel 32 = .ok (.ireturn, 1) := by decide +kernel
theorem d_10_changes_0 : decode cX10_changes 0 = .ok (.aload_n 0, 1) := by decide +kernel
theorem d_10_changes_1 : decode cX10_changes 1 = .ok (.iload_n 1, 1) := by decide +kernel
theorem d_10_changes_2 : decode cX10_changes 2 = .ok (.iaload, 1) := by decide +kernel
theorem d_10_changes_3 : decode cX10_changes 3 = .ok (.iload_n 2, 1) := by decide +kernel
theorem d_10_changes_4 : decode cX10_changes 4 = .ok (.isub, 1) := by decide +kernel
theorem d_10_changes_5 : decode cX10_changes 5 = .ok (.istore 6, 2) := by decide +kernel
theorem d_10_changes_7 : decode cX10_changes 7 = .ok (.iconst 1, 1) := by decide +kernel
theorem d_10_changes_8 : decode cX10_changes 8 = .ok (.istore 7, 2) := by decide +kernel
theorem d_10_changes_10 : decode cX10_changes 10 = .ok (.iload 7, 2) := by decide +kernel
theorem d_10_changes_12 : decode cX10_changes 12 = .ok (.iload 6, 2) := by decide +kernel
theorem d_10_changes_14 : decode cX10_changes 14 = .ok (.if_icmp .gt 20, 3) := by decide +kernel
theorem d_10_changes_17 : decode cX10_changes 17 = .ok (.aload 5, 2) := by decide +kernel
theorem d_10_changes_19 : decode cX10_changes 19 = .ok (.iload 7, 2) := by decide +kernel
theorem d_10_changes_21 : decode cX10_changes 21 = .ok (.aload_n 0, 1) := by decide +kernel
theorem d_10_changes_22 : decode cX10_changes 22 = .ok (.iload_n 1, 1) := by decide +kernel
theorem d_10_changes_23 : decode cX10_changes 23 = .ok (.iload 7, 2) := by decide +kernel
theorem d_10_changes_25 : decode cX10_changes 25 = .ok (.iadd, 1) := by decide +kernel
theorem d_10_changes_26 : decode cX10_changes 26 = .ok (.iaload, 1) := by decide +kernel
theorem d_10_changes_27 : decode cX10_changes 27 = .ok (.iastore, 1) := by decide +kernel
theorem d_10_changes_28 : decode cX10_changes 28 = .ok (.iinc 7 1, 3) := by decide +kernel
theorem d_10_changes_31 : decode cX10_changes 31 = .ok (.goto (-21), 3) := by decide +kernel
theorem d_10_changes_34 : decode cX10_changes 34 = .ok (.iconst 1, 1) := by decide +kernel
theorem d_10_changes_35 : decode cX10_changes 35 = .ok (.istore 7, 2) := by decide +kernel
theorem d_10_changes_37 : decode cX10_changes 37 = .ok (.iload 7, 2) := by decide +kernel
theorem d_10_changes_39 : decode cX10_changes 39 = .ok (.aload_n 3, 1) := by decide +kernel
theorem d_10_changes_40 : decode cX10_changes 40 = .ok (.iload 4, 2) := by decide +kernel
theorem d_10_changes_42 : decode cX10_changes 42 = .ok (.iaload, 1) := by decide +kernel
theorem d_10_changes_43 : decode cX10_changes 43 = .ok (.if_icmp .gt 24, 3) := by decide +kernel
theorem d_10_changes_46 : decode cX10_changes 46 = .ok (.aload 5, 2) := by decide +kernel
theorem d_10_changes_48 : decode cX10_changes 48 = .ok (.iload 6, 2) := by decide +kernel
theorem d_10_changes_50 : decode cX10_changes 50 = .ok (.iload 7, 2) := by decide +kernel
theorem d_10_changes_52 : decode cX10_changes 52 = .ok (.iadd, 1) := by decide +kernel
theorem d_10_changes_53 : decode cX10_changes 53 = .ok (.aload_n 3, 1) := by decide +kernel
theorem d_10_changes_54 : decode cX10_changes 54 = .ok (.iload 4, 2) := by decide +kernel
theorem d_10_changes_56 : decode cX10_changes 56 = .ok (.iload 7, 2) := by decide +kernel
theorem d_10_changes_58 : decode cX10_changes 58 = .ok (.iadd, 1) := by decide +kernel
theorem d_10_changes_59 : decode cX10_changes 59 = .ok (.iaload, 1) := by decide +kernel
theorem d_10_changes_60 : decode cX10_changes 60 = .ok (.iastore, 1) := by decide +kernel
theorem d_10_changes_61 : decode cX10_changes 61 = .ok (.iinc 7 1, 3) := by decide +kernel
theorem d_10_changes_64 : decode cX10_changes 64 = .ok (.goto (-27), 3) := by decide +kernel
theorem d_10_changes_67 : decode cX10_changes 67 = .ok (.aload 5, 2) := by decide +kernel
theorem d_10_changes_69 : decode cX10_changes 69 = .ok (.iconst 0, 1) := by decide +kernel
theorem d_10_changes_70 : decode cX10_changes 70 = .ok (.iload 6, 2) := by decide +kernel
theorem d_10_changes_72 : decode cX10_changes 72 = .ok (.aload_n 3, 1) := by decide +kernel
theorem d_10_changes_73 : decode cX10_changes 73 = .ok (.iload 4, 2) := by decide +kernel
theorem d_10_changes_75 : decode cX10_changes 75 = .ok (.iaload, 1) := by decide +kernel
theorem d_10_changes_76 : decode cX10_changes 76 = .ok (.iadd, 1) := by decide +kernel
theorem d_10_changes_77 : decode cX10_changes 77 = .ok (.iastore, 1) := by decide +kernel
theorem d_10_changes_78 : decode cX10_changes 78 = .ok (.aload 5, 2) := by decide +kernel
theorem d_10_changes_80 : decode cX10_changes 80 = .ok (.iconst 0, 1) := by decide +kernel
theorem d_10_changes_81 : decode cX10_changes 81 = .ok (.iaload, 1) := by decide +kernel
theorem d_10_changes_82 : decode cX10_changes 82 = .ok (.iconst 1, 1) := by decide +kernel
theorem d_10_changes_83 : decode cX10_changes 83 = .ok (.iadd, 1) := by decide +kernel
theorem d_10_changes_84 : decode cX10_changes 84 = .ok (.istore 7, 2) := by decide +kernel
theorem d_10_changes_86 : decode cX10_changes 86 = .ok (.iload 7, 2) := by decide +kernel
theorem d_10_changes_88 : decode cX10_changes 88 = .ok (.bipush 17, 2) := by decide +kernel
theorem d_10_changes_90 : decode cX10_changes 90 = .ok (.if_icmp .ge 15, 3) := by decide +kernel
theorem d_10_changes_93 : decode cX10_changes 93 = .ok (.aload 5, 2) := by decide +kernel
theorem d_10_changes_95 : decode cX10_changes 95 = .ok (.iload 7, 2) := by decide +kernel
theorem d_10_changes_97 : decode cX10_changes 97 = .ok (.iconst 0, 1) := by decide +kernel
theorem d_10_changes_98 : decode cX10_changes 98 = .ok (.iastore, 1) := by decide +kernel
theorem d_10_changes_99 : decode cX10_changes 99 = .ok (.iinc 7 1, 3) := by decide +kernel
theorem d_10_changes_102 : decode cX10_changes 102 = .ok (.goto (-16), 3) := by decide +kernel
theorem d_10_changes_105 : decode cX10_changes 105 = .ok (.return_, 1) := by decide +kernel
theorem d_10_fits_0 : decode cX10_fits 0 = .ok (.bipush 6, 2) := by decide +kernel
theorem d_10_fits_2 : decode cX10_fits 2 = .ok (.bipush 35, 2) := by decide +kernel
theorem d_10_fits_4 : decode cX10_fits 4 = .ok (.iload_n 1, 1) := by decide +kernel
theorem d_10_fits_5 : decode cX10_fits 5 = .ok (.imul, 1) := by decide +kernel
theorem d_10_fits_6 : decode cX10_fits 6 = .ok (.iadd, 1) := by decide +kernel
theorem d_10_fits_7 : decode cX10_fits 7 = .ok (.istore 4, 2) := by decide +kernel
theorem d_10_fits_9 : decode cX10_fits 9 = .ok (.aload_n 2, 1) := by decide +kernel
theorem d_10_fits_10 : decode cX10_fits 10 = .ok (.iload_n 3, 1) := by decide +kernel
theorem d_10_fits_11 : decode cX10_fits 11 = .ok (.iaload, 1) := by decide +kernel
theorem d_10_fits_12 : decode cX10_fits 12 = .ok (.aload_n 0, 1) := by decide +kernel
theorem d_10_fits_13 : decode cX10_fits 13 = .ok (.getfield 7, 3) := by decide +kernel
theorem d_10_fits_16 : decode cX10_fits 16 = .ok (.iload 4, 2) := by decide +kernel
theorem d_10_fits_18 : decode cX10_fits 18 = .ok (.iconst 1, 1) := by decide +kernel
theorem d_10_fits_19 : decode cX10_fits 19 = .ok (.iadd, 1) := by decide +kernel
theorem d_10_fits_20 : decode cX10_fits 20 = .ok (.iaload, 1) := by decide +kernel
theorem d_10_fits_21 : decode cX10_fits 21 = .ok (.isub, 1) := by decide +kernel
theorem d_10_fits_22 : decode cX10_fits 22 = .ok (.istore 5, 2) := by decide +kernel
theorem d_10_fits_24 : decode cX10_fits 24 = .ok (.aload_n 2, 1) := by decide +kernel
theorem d_10_fits_25 : decode cX10_fits 25 = .ok (.iload_n 3, 1) := by decide +kernel
theorem d_10_fits_26 : decode cX10_fits 26 = .ok (.aload_n 0, 1) := by decide +kernel
theorem d_10_fits_27 : decode cX10_fits 27 = .ok (.getfield 7, 3) := by decide +kernel
theorem d_10_fits_30 : decode cX10_fits 30 = .ok (.iload 4, 2) := by decide +kernel
theorem d_10_fits_32 : decode cX10_fits 32 = .ok (.iconst 1, 1) := by decide +kernel
theorem d_10_fits_33 : decode cX10_fits 33 = .ok (.iadd, 1) := by decide +kernel
theorem d_10_fits_34 : decode cX10_fits 34 = .ok (.invokestatic 51, 3) := by decide +kernel
theorem d_10_fits_37 : decode cX10_fits 37 = .ok (.ifCond .ne 5, 3) := by decide +kernel
theorem d_10_fits_40 : decode cX10_fits 40 = .ok (.iconst 0, 1) := by decide +kernel
theorem d_10_fits_41 : decode cX10_fits 41 = .ok (.ireturn, 1) := by decide +kernel
theorem d_10_fits_42 : decode cX10_fits 42 = .ok (.aload_n 0, 1) := by decide +kernel
theorem d_10_fits_43 : decode cX10_fits 43 = .ok (.getfield 7, 3) := by decide +kernel
theorem d_10_fits_46 : decode cX10_fits 46 = .ok (.iload 4, 2) := by decide +kernel
theorem d_10_fits_48 : decode cX10_fits 48 = .ok (.iaload, 1) := by decide +kernel
theorem d_10_fits_49 : decode cX10_fits 49 = .ok (.ifCond .eq 36, 3) := by decide +kernel
theorem d_10_fits_52 : decode cX10_fits 52 = .ok (.iload 5, 2) := by decide +kernel
theorem d_10_fits_54 : decode cX10_fits 54 = .ok (.ifCond .le 35, 3) := by decide +kernel
theorem d_10_fits_57 : decode cX10_fits 57 = .ok (.aload_n 2, 1) := by decide +kernel
theorem d_10_fits_58 : decode cX10_fits 58 = .ok (.iload_n 3, 1) := by decide +kernel
theorem d_10_fits_59 : decode cX10_fits 59 = .ok (.iload 5, 2) := by decide +kernel
theorem d_10_fits_61 : decode cX10_fits 61 = .ok (.iadd, 1) := by decide +kernel
theorem d_10_fits_62 : decode cX10_fits 62 = .ok (.iaload, 1) := by decide +kernel
theorem d_10_fits_63 : decode cX10_fits 63 = .ok (.invokestatic 55, 3) := by decide +kernel
theorem d_10_fits_66 : decode cX10_fits 66 = .ok (.aload_n 0, 1) := by decide +kernel
theorem d_10_fits_67 : decode cX10_fits 67 = .ok (.getfield 7, 3) := by decide +kernel
theorem d_10_fits_70 : decode cX10_fits 70 = .ok (.iload 4, 2) := by decide +kernel
theorem d_10_fits_72 : decode cX10_fits 72 = .ok (.iaload, 1) := by decide +kernel
theorem d_10_fits_73 : decode cX10_fits 73 = .ok (.iconst 2, 1) := by decide +kernel
theorem d_10_fits_74 : decode cX10_fits 74 = .ok (.if_icmp .ne 7, 3) := by decide +kernel
theorem d_10_fits_77 : decode cX10_fits 77 = .ok (.iconst 1, 1) := by decide +kernel
theorem d_10_fits_78 : decode cX10_fits 78 = .ok (.goto 4, 3) := by decide +kernel
theorem d_10_fits_81 : decode cX10_fits 81 = .ok (.iconst 0, 1) := by decide +kernel
theorem d_10_fits_82 : decode cX10_fits 82 = .ok (.if_icmp .ne 7, 3) := by decide +kernel
theorem d_10_fits_85 : decode cX10_fits 85 = .ok (.iconst 1, 1) := by decide +kernel
theorem d_10_fits_86 : decode cX10_fits 86 = .ok (.goto 4, 3) := by decide +kernel
theorem d_10_fits_89 : decode cX10_fits 89 = .ok (.iconst 0, 1) := by decide +kernel
theorem d_10_fits_90 : decode cX10_fits 90 = .ok (.ireturn, 1) := by decide +kernel
theorem d_10_inTable_0 : decode cX10_inTable 0 = .ok (.iconst 0, 1) := by decide +kernel
theorem d_10_inTable_1 : decode cX10_inTable 1 = .ok (.istore_n 3, 1) := by decide +kernel
theorem d_10_inTable_2 : decode cX10_inTable 2 = .ok (.iload_n 3, 1) := by decide +kernel
theorem d_10_inTable_3 : decode cX10_inTable 3 = .ok (.aload_n 0, 1) := by decide +kernel
theorem d_10_inTable_4 : decode cX10_inTable 4 = .ok (.getfield 7, 3) := by decide +kernel
theorem d_10_inTable_7 : decode cX10_inTable 7 = .ok (.iconst 1, 1) := by decide +kernel
theorem d_10_inTable_8 : decode cX10_inTable 8 = .ok (.iaload, 1) := by decide +kernel
theorem d_10_inTable_9 : decode cX10_inTable 9 = .ok (.if_icmp .ge 31, 3) := by decide +kernel
theorem d_10_inTable_12 : decode cX10_inTable 12 = .ok (.aload_n 1, 1) := by decide +kernel
theorem d_10_inTable_13 : decode cX10_inTable 13 = .ok (.iload_n 2, 1) := by decide +kernel
theorem d_10_inTable_14 : decode cX10_inTable 14 = .ok (.aload_n 0, 1) := by decide +kernel
theorem d_10_inTable_15 : decode cX10_inTable 15 = .ok (.getfield 7, 3) := by decide +kernel
theorem d_10_inTable_18 : decode cX10_inTable 18 = .ok (.sipush 426, 3) := by decide +kernel
theorem d_10_inTable_21 : decode cX10_inTable 21 = .ok (.bipush 34, 2) := by decide +kernel
theorem d_10_inTable_23 : decode cX10_inTable 23 = .ok (.iload_n 3, 1) := by decide +kernel
theorem d_10_inTable_24 : decode cX10_inTable 24 = .ok (.imul, 1) := by decide +kernel
theorem d_10_inTable_25 : decode cX10_inTable 25 = .ok (.iadd, 1) := by decide +kernel
theorem d_10_inTable_26 : decode cX10_inTable 26 = .ok (.invokestatic 59, 3) := by decide +kernel
theorem d_10_inTable_29 : decode cX10_inTable 29 = .ok (.ifCond .eq 5, 3) := by decide +kernel
theorem d_10_inTable_32 : decode cX10_inTable 32 = .ok (.iload_n 3, 1) := by decide +kernel
theorem d_10_inTable_33 : decode cX10_inTable 33 = .ok (.ireturn, 1) := by decide +kernel
theorem d_10_inTable_34 : decode cX10_inTable 34 = .ok (.iinc 3 1, 3) := by decide +kernel
theorem d_10_inTable_37 : decode cX10_inTable 37 = .ok (.goto (-35), 3) := by decide +kernel
theorem d_10_inTable_40 : decode cX10_inTable 40 = .ok (.iconst (-1), 1) := by decide +kernel
theorem d_10_inTable_41 : decode cX10_inTable 41 = .ok (.ireturn, 1) := by decide +kernel
theorem d_10_dieBy_0 : decode cX10_dieBy 0 = .ok (.iconst 0, 1) := by decide +kernel
theorem d_10_dieBy_1 : decode cX10_dieBy 1 = .ok (.istore_n 3, 1) := by decide +kernel
theorem d_10_dieBy_2 : decode cX10_dieBy 2 = .ok (.iconst 0, 1) := by decide +kernel
theorem d_10_dieBy_3 : decode cX10_dieBy 3 = .ok (.istore 4, 2) := by decide +kernel
theorem d_10_dieBy_5 : decode cX10_dieBy 5 = .ok (.iload 4, 2) := by decide +kernel
theorem d_10_dieBy_7 : decode cX10_dieBy 7 = .ok (.aload_n 0, 1) := by decide +kernel
theorem d_10_dieBy_8 : decode cX10_dieBy 8 = .ok (.getfield 7, 3) := by decide +kernel
theorem d_10_dieBy_11 : decode cX10_dieBy 11 = .ok (.iconst 0, 1) := by decide +kernel
theorem d_10_dieBy_12 : decode cX10_dieBy 12 = .ok (.iaload, 1) := by decide +kernel
theorem d_10_dieBy_13 : decode cX10_dieBy 13 = .ok (.if_icmp .ge 59, 3) := by decide +kernel
theorem d_10_dieBy_16 : decode cX10_dieBy 16 = .ok (.aload_n 0, 1) := by decide +kernel
theorem d_10_dieBy_17 : decode cX10_dieBy 17 = .ok (.iload 4, 2) := by decide +kernel
theorem d_10_dieBy_19 : decode cX10_dieBy 19 = .ok (.aload_n 1, 1) := by decide +kernel
theorem d_10_dieBy_20 : decode cX10_dieBy 20 = .ok (.iload_n 2, 1) := by decide +kernel
theorem d_10_dieBy_21 : decode cX10_dieBy 21 = .ok (.invokevirtual 62, 3) := by decide +kernel
theorem d_10_dieBy_24 : decode cX10_dieBy 24 = .ok (.ifCond .eq 40, 3) := by decide +kernel
theorem d_10_dieBy_27 : decode cX10_dieBy 27 = .ok (.aload_n 0, 1) := by decide +kernel
theorem d_10_dieBy_28 : decode cX10_dieBy 28 = .ok (.getfield 7, 3) := by decide +kernel
theorem d_10_dieBy_31 : decode cX10_dieBy 31 = .ok (.bipush 6, 2) := by decide +kernel
theorem d_10_dieBy_33 : decode cX10_dieBy 33 = .ok (.bipush 35, 2) := by decide +kernel
theorem d_10_dieBy_35 : decode cX10_dieBy 35 = .ok (.iload 4, 2) := by decide +kernel
theorem d_10_dieBy_37 : decode cX10_dieBy 37 = .ok (.imul, 1) := by decide +kernel
theorem d_10_dieBy_38 : decode cX10_dieBy 38 = .ok (.iadd, 1) := by decide +kernel
theorem d_10_dieBy_39 : decode cX10_dieBy 39 = .ok (.iconst 1, 1) := by decide +kernel
theorem d_10_dieBy_40 : decode cX10_dieBy 40 = .ok (.iadd, 1) := by decide +kernel
theorem d_10_dieBy_41 : decode cX10_dieBy 41 = .ok (.iaload, 1) := by decide +kernel
theorem d_10_dieBy_42 : decode cX10_dieBy 42 = .ok (.aload_n 0, 1) := by decide +kernel
theorem d_10_dieBy_43 : decode cX10_dieBy 43 = .ok (.getfield 7, 3) := by decide +kernel
theorem d_10_dieBy_46 : decode cX10_dieBy 46 = .ok (.bipush 6, 2) := by decide +kernel
theorem d_10_dieBy_48 : decode cX10_dieBy 48 = .ok (.bipush 35, 2) := by decide +kernel
theorem d_10_dieBy_50 : decode cX10_dieBy 50 = .ok (.iload_n 3, 1) := by decide +kernel
theorem d_10_dieBy_51 : decode cX10_dieBy 51 = .ok (.imul, 1) := by decide +kernel
theorem d_10_dieBy_52 : decode cX10_dieBy 52 = .ok (.iadd, 1) := by decide +kernel
theorem d_10_dieBy_53 : decode cX10_dieBy 53 = .ok (.iconst 1, 1) := by decide +kernel
theorem d_10_dieBy_54 : decode cX10_dieBy 54 = .ok (.iadd, 1) := by decide +kernel
theorem d_10_dieBy_55 : decode cX10_dieBy 55 = .ok (.iaload, 1) := by decide +kernel
theorem d_10_dieBy_56 : decode cX10_dieBy 56 = .ok (.if_icmp .lt 8, 3) := by decide +kernel
theorem d_10_dieBy_59 : decode cX10_dieBy 59 = .ok (.iload 4, 2) := by decide +kernel
theorem d_10_dieBy_61 : decode cX10_dieBy 61 = .ok (.goto 4, 3) := by decide +kernel
theorem d_10_dieBy_64 : decode cX10_dieBy 64 = .ok (.iload_n 3, 1) := by decide +kernel
theorem d_10_dieBy_65 : decode cX10_dieBy 65 = .ok (.istore_n 3, 1) := by decide +kernel
theorem d_10_dieBy_66 : decode cX10_dieBy 66 = .ok (.iinc 4 1, 3) := by decide +kernel
theorem d_10_dieBy_69 : decode cX10_dieBy 69 = .ok (.goto (-64), 3) := by decide +kernel
theorem d_10_dieBy_72 : decode cX10_dieBy 72 = .ok (.iload_n 3, 1) := by decide +kernel
theorem d_10_dieBy_73 : decode cX10_dieBy 73 = .ok (.ireturn, 1) := by decide +kernel
theorem d_10_makes_0 : decode cX10_makes 0 = .ok (.aload_n 0, 1) := by decide +kernel
theorem d_10_makes_1 : decode cX10_makes 1 = .ok (.aload_n 1, 1) := by decide +kernel
theorem d_10_makes_2 : decode cX10_makes 2 = .ok (.iload_n 2, 1) := by decide +kernel
theorem d_10_makes_3 : decode cX10_makes 3 = .ok (.invokevirtual 66, 3) := by decide +kernel
theorem d_10_makes_6 : decode cX10_makes 6 = .ok (.istore_n 3, 1) := by decide +kernel
theorem d_10_makes_7 : decode cX10_makes 7 = .ok (.iload_n 3, 1) := by decide +kernel
theorem d_10_makes_8 : decode cX10_makes 8 = .ok (.iconst (-1), 1) := by decide +kernel
theorem d_10_makes_9 : decode cX10_makes 9 = .ok (.if_icmp .eq 29, 3) := by decide +kernel
theorem d_10_makes_12 : decode cX10_makes 12 = .ok (.aload_n 0, 1) := by decide +kernel
theorem d_10_makes_13 : decode cX10_makes 13 = .ok (.getfield 7, 3) := by decide +kernel
theorem d_10_makes_16 : decode cX10_makes 16 = .ok (.sipush 426, 3) := by decide +kernel
theorem d_10_makes_19 : decode cX10_makes 19 = .ok (.bipush 34, 2) := by decide +kernel
theorem d_10_makes_21 : decode cX10_makes 21 = .ok (.iload_n 3, 1) := by decide +kernel
theorem d_10_makes_22 : decode cX10_makes 22 = .ok (.imul, 1) := by decide +kernel
theorem d_10_makes_23 : decode cX10_makes 23 = .ok (.iadd, 1) := by decide +kernel
theorem d_10_makes_24 : decode cX10_makes 24 = .ok (.bipush 17, 2) := by decide +kernel
theorem d_10_makes_26 : decode cX10_makes 26 = .ok (.iadd, 1) := by decide +kernel
theorem d_10_makes_27 : decode cX10_makes 27 = .ok (.aload_n 0, 1) := by decide +kernel
theorem d_10_makes_28 : decode cX10_makes 28 = .ok (.getfield 22, 3) := by decide +kernel
theorem d_10_makes_31 : decode cX10_makes 31 = .ok (.iconst 0, 1) := by decide +kernel
theorem d_10_makes_32 : decode cX10_makes 32 = .ok (.invokestatic 70, 3) := by decide +kernel
theorem d_10_makes_35 : decode cX10_makes 35 = .ok (.goto 44, 3) := by decide +kernel
theorem d_10_makes_38 : decode cX10_makes 38 = .ok (.bipush 6, 2) := by decide +kernel
theorem d_10_makes_40 : decode cX10_makes 40 = .ok (.bipush 35, 2) := by decide +kernel
theorem d_10_makes_42 : decode cX10_makes 42 = .ok (.aload_n 0, 1) := by decide +kernel
theorem d_10_makes_43 : decode cX10_makes 43 = .ok (.aload_n 1, 1) := by decide +kernel
theorem d_10_makes_44 : decode cX10_makes 44 = .ok (.iload_n 2, 1) := by decide +kernel
theorem d_10_makes_45 : decode cX10_makes 45 = .ok (.invokevirtual 74, 3) := by decide +kernel
theorem d_10_makes_48 : decode cX10_makes 48 = .ok (.imul, 1) := by decide +kernel
theorem d_10_makes_49 : decode cX10_makes 49 = .ok (.iadd, 1) := by decide +kernel
theorem d_10_makes_50 : decode cX10_makes 50 = .ok (.istore 4, 2) := by decide +kernel
theorem d_10_makes_52 : decode cX10_makes 52 = .ok (.aload_n 1, 1) := by decide +kernel
theorem d_10_makes_53 : decode cX10_makes 53 = .ok (.iload_n 2, 1) := by decide +kernel
theorem d_10_makes_54 : decode cX10_makes 54 = .ok (.aload_n 0, 1) := by decide +kernel
theorem d_10_makes_55 : decode cX10_makes 55 = .ok (.getfield 7, 3) := by decide +kernel
theorem d_10_makes_58 : decode cX10_makes 58 = .ok (.iload 4, 2) := by decide +kernel
theorem d_10_makes_60 : decode cX10_makes 60 = .ok (.iconst 1, 1) := by decide +kernel
theorem d_10_makes_61 : decode cX10_makes 61 = .ok (.iadd, 1) := by decide +kernel
theorem d_10_makes_62 : decode cX10_makes 62 = .ok (.iaload, 1) := by decide +kernel
theorem d_10_makes_63 : decode cX10_makes 63 = .ok (.aload_n 0, 1) := by decide +kernel
theorem d_10_makes_64 : decode cX10_makes 64 = .ok (.getfield 7, 3) := by decide +kernel
theorem d_10_makes_67 : decode cX10_makes 67 = .ok (.iload 4, 2) := by decide +kernel
theorem d_10_makes_69 : decode cX10_makes 69 = .ok (.bipush 18, 2) := by decide +kernel
theorem d_10_makes_71 : decode cX10_makes 71 = .ok (.iadd, 1) := by decide +kernel
theorem d_10_makes_72 : decode cX10_makes 72 = .ok (.aload_n 0, 1) := by decide +kernel
theorem d_10_makes_73 : decode cX10_makes 73 = .ok (.getfield 22, 3) := by decide +kernel
theorem d_10_makes_76 : decode cX10_makes 76 = .ok (.invokestatic 77, 3) := by decide +kernel
theorem d_10_makes_79 : decode cX10_makes 79 = .ok (.return_, 1) := by decide +kernel
theorem d_10_makesOf_0 : decode cX10_makesOf 0 = .ok (.aload_n 0, 1) := by decide +kernel
theorem d_10_makesOf_1 : decode cX10_makesOf 1 = .ok (.aload_n 0, 1) := by decide +kernel
theorem d_10_makesOf_2 : decode cX10_makesOf 2 = .ok (.getfield 7, 3) := by decide +kernel
theorem d_10_makesOf_5 : decode cX10_makesOf 5 = .ok (.sipush 766, 3) := by decide +kernel
theorem d_10_makesOf_8 : decode cX10_makesOf 8 = .ok (.bipush 17, 2) := by decide +kernel
theorem d_10_makesOf_10 : decode cX10_makesOf 10 = .ok (.iload_n 1, 1) := by decide +kernel
theorem d_10_makesOf_11 : decode cX10_makesOf 11 = .ok (.imul, 1) := by decide +kernel
theorem d_10_makesOf_12 : decode cX10_makesOf 12 = .ok (.iadd, 1) := by decide +kernel
theorem d_10_makesOf_13 : decode cX10_makesOf 13 = .ok (.invokevirtual 81, 3) := by decide +kernel
theorem d_10_makesOf_16 : decode cX10_makesOf 16 = .ok (.return_, 1) := by decide +kernel
theorem d_10_coins_0 : decode cX10_coins 0 = .ok (.iconst 0, 1) := by decide +kernel
theorem d_10_coins_1 : decode cX10_coins 1 = .ok (.istore_n 2, 1) := by decide +kernel
theorem d_10_coins_2 : decode cX10_coins 2 = .ok (.iconst 0, 1) := by decide +kernel
theorem d_10_coins_3 : decode cX10_coins 3 = .ok (.istore_n 3, 1) := by decide +kernel
theorem d_10_coins_4 : decode cX10_coins 4 = .ok (.iload_n 3, 1) := by decide +kernel
theorem d_10_coins_5 : decode cX10_coins 5 = .ok (.aload_n 0, 1) := by decide +kernel
theorem d_10_coins_6 : decode cX10_coins 6 = .ok (.getfield 7, 3) := by decide +kernel
theorem d_10_coins_9 : decode cX10_coins 9 = .ok (.iconst 3, 1) := by decide +kernel
theorem d_10_coins_10 : decode cX10_coins 10 = .ok (.iaload, 1) := by decide +kernel
theorem d_10_coins_11 : decode cX10_coins 11 = .ok (.if_icmp .ge 53, 3) := by decide +kernel
theorem d_10_coins_14 : decode cX10_coins 14 = .ok (.iload_n 2, 1) := by decide +kernel
theorem d_10_coins_15 : decode cX10_coins 15 = .ok (.iload_n 1, 1) := by decide +kernel
theorem d_10_coins_16 : decode cX10_coins 16 = .ok (.iconst (-1), 1) := by decide +kernel
theorem d_10_coins_17 : decode cX10_coins 17 = .ok (.if_icmp .eq 20, 3) := by decide +kernel
theorem d_10_coins_20 : decode cX10_coins 20 = .ok (.aload_n 0, 1) := by decide +kernel
theorem d_10_coins_21 : decode cX10_coins 21 = .ok (.getfield 7, 3) := by decide +kernel
theorem d_10_coins_24 : decode cX10_coins 24 = .ok (.sipush 1106, 3) := by decide +kernel
theorem d_10_coins_27 : decode cX10_coins 27 = .ok (.bipush 19, 2) := by decide +kernel
theorem d_10_coins_29 : decode cX10_coins 29 = .ok (.iload_n 3, 1) := by decide +kernel
theorem d_10_coins_30 : decode cX10_coins 30 = .ok (.imul, 1) := by decide +kernel
theorem d_10_coins_31 : decode cX10_coins 31 = .ok (.iadd, 1) := by decide +kernel
theorem d_10_coins_32 : decode cX10_coins 32 = .ok (.iaload, 1) := by decide +kernel
theorem d_10_coins_33 : decode cX10_coins 33 = .ok (.iload_n 1, 1) := by decide +kernel
theorem d_10_coins_34 : decode cX10_coins 34 = .ok (.if_icmp .ne 21, 3) := by decide +kernel
theorem d_10_coins_37 : decode cX10_coins 37 = .ok (.aload_n 0, 1) := by decide +kernel
theorem d_10_coins_38 : decode cX10_coins 38 = .ok (.getfield 7, 3) := by decide +kernel
theorem d_10_coins_41 : decode cX10_coins 41 = .ok (.sipush 1106, 3) := by decide +kernel
theorem d_10_coins_44 : decode cX10_coins 44 = .ok (.bipush 19, 2) := by decide +kernel
theorem d_10_coins_46 : decode cX10_coins 46 = .ok (.iload_n 3, 1) := by decide +kernel
theorem d_10_coins_47 : decode cX10_coins 47 = .ok (.imul, 1) := by decide +kernel
theorem d_10_coins_48 : decode cX10_coins 48 = .ok (.iadd, 1) := by decide +kernel
theorem d_10_coins_49 : decode cX10_coins 49 = .ok (.iconst 1, 1) := by decide +kernel
theorem d_10_coins_50 : decode cX10_coins 50 = .ok (.iadd, 1) := by decide +kernel
theorem d_10_coins_51 : decode cX10_coins 51 = .ok (.iaload, 1) := by decide +kernel
theorem d_10_coins_52 : decode cX10_coins 52 = .ok (.goto 4, 3) := by decide +kernel
theorem d_10_coins_55 : decode cX10_coins 55 = .ok (.iconst 0, 1) := by decide +kernel
theorem d_10_coins_56 : decode cX10_coins 56 = .ok (.iadd, 1) := by decide +kernel
theorem d_10_coins_57 : decode cX10_coins 57 = .ok (.istore_n 2, 1) := by decide +kernel
theorem d_10_coins_58 : decode cX10_coins 58 = .ok (.iinc 3 1, 3) := by decide +kernel
theorem d_10_coins_61 : decode cX10_coins 61 = .ok (.goto (-57), 3) := by decide +kernel
theorem d_10_coins_64 : decode cX10_coins 64 = .ok (.iload_n 2, 1) := by decide +kernel
theorem d_10_coins_65 : decode cX10_coins 65 = .ok (.ireturn, 1) := by decide +kernel
theorem d_10_isStale_0 : decode cX10_isStale 0 = .ok (.aload_n 0, 1) := by decide +kernel
theorem d_10_isStale_1 : decode cX10_isStale 1 = .ok (.aload_n 0, 1) := by decide +kernel
theorem d_10_isStale_2 : decode cX10_isStale 2 = .ok (.getfield 7, 3) := by decide +kernel
theorem d_10_isStale_5 : decode cX10_isStale 5 = .ok (.sipush 1106, 3) := by decide +kernel
theorem d_10_isStale_8 : decode cX10_isStale 8 = .ok (.bipush 19, 2) := by decide +kernel
theorem d_10_isStale_10 : decode cX10_isStale 10 = .ok (.iload_n 1, 1) := by decide +kernel
theorem d_10_isStale_11 : decode cX10_isStale 11 = .ok (.imul, 1) := by decide +kernel
theorem d_10_isStale_12 : decode cX10_isStale 12 = .ok (.iadd, 1) := by decide +kernel
theorem d_10_isStale_13 : decode cX10_isStale 13 = .ok (.iaload, 1) := by decide +kernel
theorem d_10_isStale_14 : decode cX10_isStale 14 = .ok (.invokevirtual 85, 3) := by decide +kernel
theorem d_10_isStale_17 : decode cX10_isStale 17 = .ok (.aload_n 0, 1) := by decide +kernel
theorem d_10_isStale_18 : decode cX10_isStale 18 = .ok (.getfield 22, 3) := by decide +kernel
theorem d_10_isStale_21 : decode cX10_isStale 21 = .ok (.iconst 0, 1) := by decide +kernel
theorem d_10_isStale_22 : decode cX10_isStale 22 = .ok (.aload_n 0, 1) := by decide +kernel
theorem d_10_isStale_23 : decode cX10_isStale 23 = .ok (.getfield 7, 3) := by decide +kernel
theorem d_10_isStale_26 : decode cX10_isStale 26 = .ok (.sipush 1106, 3) := by decide +kernel
theorem d_10_isStale_29 : decode cX10_isStale 29 = .ok (.bipush 19, 2) := by decide +kernel
theorem d_10_isStale_31 : decode cX10_isStale 31 = .ok (.iload_n 1, 1) := by decide +kernel
theorem d_10_isStale_32 : decode cX10_isStale 32 = .ok (.imul, 1) := by decide +kernel
theorem d_10_isStale_33 : decode cX10_isStale 33 = .ok (.iadd, 1) := by decide +kernel
theorem d_10_isStale_34 : decode cX10_isStale 34 = .ok (.iconst 2, 1) := by decide +kernel
theorem d_10_isStale_35 : decode cX10_isStale 35 = .ok (.iadd, 1) := by decide +kernel
theorem d_10_isStale_36 : decode cX10_isStale 36 = .ok (.invokestatic 59, 3) := by decide +kernel
theorem d_10_isStale_39 : decode cX10_isStale 39 = .ok (.ifCond .ne 7, 3) := by decide +kernel
theorem d_10_isStale_42 : decode cX10_isStale 42 = .ok (.iconst 1, 1) := by decide +kernel
theorem d_10_isStale_43 : decode cX10_isStale 43 = .ok (.goto 4, 3) := by decide +kernel
theorem d_10_isStale_46 : decode cX10_isStale 46 = .ok (.iconst 0, 1) := by decide +kernel
theorem d_10_isStale_47 : decode cX10_isStale 47 = .ok (.ireturn, 1) := by decide +kernel
theorem d_10_heapFor_0 : decode cX10_heapFor 0 = .ok (.aload_n 0, 1) := by decide +kernel
theorem d_10_heapFor_1 : decode cX10_heapFor 1 = .ok (.getfield 7, 3) := by decide +kernel
theorem d_10_heapFor_4 : decode cX10_heapFor 4 = .ok (.iconst 3, 1) := by decide +kernel
theorem d_10_heapFor_5 : decode cX10_heapFor 5 = .ok (.iaload, 1) := by decide +kernel
theorem d_10_heapFor_6 : decode cX10_heapFor 6 = .ok (.istore_n 2, 1) := by decide +kernel
theorem d_10_heapFor_7 : decode cX10_heapFor 7 = .ok (.aload_n 0, 1) := by decide +kernel
theorem d_10_heapFor_8 : decode cX10_heapFor 8 = .ok (.getfield 7, 3) := by decide +kernel
theorem d_10_heapFor_11 : decode cX10_heapFor 11 = .ok (.iconst 3, 1) := by decide +kernel
theorem d_10_heapFor_12 : decode cX10_heapFor 12 = .ok (.iaload, 1) := by decide +kernel
theorem d_10_heapFor_13 : decode cX10_heapFor 13 = .ok (.iconst 1, 1) := by decide +kernel
theorem d_10_heapFor_14 : decode cX10_heapFor 14 = .ok (.isub, 1) := by decide +kernel
theorem d_10_heapFor_15 : decode cX10_heapFor 15 = .ok (.istore_n 3, 1) := by decide +kernel
theorem d_10_heapFor_16 : decode cX10_heapFor 16 = .ok (.iload_n 3, 1) := by decide +kernel
theorem d_10_heapFor_17 : decode cX10_heapFor 17 = .ok (.ifCond .lt 40, 3) := by decide +kernel
theorem d_10_heapFor_20 : decode cX10_heapFor 20 = .ok (.aload_n 0, 1) := by decide +kernel
theorem d_10_heapFor_21 : decode cX10_heapFor 21 = .ok (.getfield 7, 3) := by decide +kernel
theorem d_10_heapFor_24 : decode cX10_heapFor 24 = .ok (.sipush 1106, 3) := by decide +kernel
theorem d_10_heapFor_27 : decode cX10_heapFor 27 = .ok (.bipush 19, 2) := by decide +kernel
theorem d_10_heapFor_29 : decode cX10_heapFor 29 = .ok (.iload_n 3, 1) := by decide +kernel
theorem d_10_heapFor_30 : decode cX10_heapFor 30 = .ok (.imul, 1) := by decide +kernel
theorem d_10_heapFor_31 : decode cX10_heapFor 31 = .ok (.iadd, 1) := by decide +kernel
theorem d_10_heapFor_32 : decode cX10_heapFor 32 = .ok (.iaload, 1) := by decide +kernel
theorem d_10_heapFor_33 : decode cX10_heapFor 33 = .ok (.iload_n 1, 1) := by decide +kernel
theorem d_10_heapFor_34 : decode cX10_heapFor 34 = .ok (.if_icmp .ne 15, 3) := by decide +kernel
theorem d_10_heapFor_37 : decode cX10_heapFor 37 = .ok (.aload_n 0, 1) := by decide +kernel
theorem d_10_heapFor_38 : decode cX10_heapFor 38 = .ok (.iload_n 3, 1) := by decide +kernel
theorem d_10_heapFor_39 : decode cX10_heapFor 39 = .ok (.invokevirtual 89, 3) := by decide +kernel
theorem d_10_heapFor_42 : decode cX10_heapFor 42 = .ok (.ifCond .ne 7, 3) := by decide +kernel
theorem d_10_heapFor_45 : decode cX10_heapFor 45 = .ok (.iload_n 3, 1) := by decide +kernel
theorem d_10_heapFor_46 : decode cX10_heapFor 46 = .ok (.goto 4, 3) := by decide +kernel
theorem d_10_heapFor_49 : decode cX10_heapFor 49 = .ok (.iload_n 2, 1) := by decide +kernel
theorem d_10_heapFor_50 : decode cX10_heapFor 50 = .ok (.istore_n 2, 1) := by decide +kernel
theorem d_10_heapFor_51 : decode cX10_heapFor 51 = .ok (.iinc 3 (-1), 3) := by decide +kernel
theorem d_10_heapFor_54 : decode cX10_heapFor 54 = .ok (.goto (-38), 3) := by decide +kernel
theorem d_10_heapFor_57 : decode cX10_heapFor 57 = .ok (.iload_n 2, 1) := by decide +kernel
theorem d_10_heapFor_58 : decode cX10_heapFor 58 = .ok (.ireturn, 1) := by decide +kernel
theorem d_10_closes_0 : decode cX10_closes 0 = .ok (.iconst 0, 1) := by decide +kernel
theorem d_10_closes_1 : decode cX10_closes 1 = .ok (.istore_n 1, 1) := by decide +kernel
theorem d_10_closes_2 : decode cX10_closes 2 = .ok (.iconst 0, 1) := by decide +kernel
theorem d_10_closes_3 : decode cX10_closes 3 = .ok (.istore_n 2, 1) := by decide +kernel
theorem d_10_closes_4 : decode cX10_closes 4 = .ok (.iload_n 2, 1) := by decide +kernel
theorem d_10_closes_5 : decode cX10_closes 5 = .ok (.aload_n 0, 1) := by decide +kernel
theorem d_10_closes_6 : decode cX10_closes 6 = .ok (.getfield 7, 3) := by decide +kernel
theorem d_10_closes_9 : decode cX10_closes 9 = .ok (.iconst 3, 1) := by decide +kernel
theorem d_10_closes_10 : decode cX10_closes 10 = .ok (.iaload, 1) := by decide +kernel
theorem d_10_closes_11 : decode cX10_closes 11 = .ok (.if_icmp .ge 74, 3) := by decide +kernel
theorem d_10_closes_14 : decode cX10_closes 14 = .ok (.aload_n 0, 1) := by decide +kernel
theorem d_10_closes_15 : decode cX10_closes 15 = .ok (.getfield 7, 3) := by decide +kernel
theorem d_10_closes_18 : decode cX10_closes 18 = .ok (.sipush 1106, 3) := by decide +kernel
theorem d_10_closes_21 : decode cX10_closes 21 = .ok (.bipush 19, 2) := by decide +kernel
theorem d_10_closes_23 : decode cX10_closes 23 = .ok (.iload_n 2, 1) := by decide +kernel
theorem d_10_closes_24 : decode cX10_closes 24 = .ok (.imul, 1) := by decide +kernel
theorem d_10_closes_25 : decode cX10_closes 25 = .ok (.iadd, 1) := by decide +kernel
theorem d_10_closes_26 : decode cX10_closes 26 = .ok (.iconst 1, 1) := by decide +kernel
theorem d_10_closes_27 : decode cX10_closes 27 = .ok (.iadd, 1) := by decide +kernel
theorem d_10_closes_28 : decode cX10_closes 28 = .ok (.iaload, 1) := by decide +kernel
theorem d_10_closes_29 : decode cX10_closes 29 = .ok (.ifCond .le 50, 3) := by decide +kernel
theorem d_10_closes_32 : decode cX10_closes 32 = .ok (.iconst 0, 1) := by decide +kernel
theorem d_10_closes_33 : decode cX10_closes 33 = .ok (.istore_n 3, 1) := by decide +kernel
theorem d_10_closes_34 : decode cX10_closes 34 = .ok (.iload_n 3, 1) := by decide +kernel
theorem d_10_closes_35 : decode cX10_closes 35 = .ok (.bipush 19, 2) := by decide +kernel
theorem d_10_closes_37 : decode cX10_closes 37 = .ok (.if_icmp .ge 39, 3) := by decide +kernel
theorem d_10_closes_40 : decode cX10_closes 40 = .ok (.aload_n 0, 1) := by decide +kernel
theorem d_10_closes_41 : decode cX10_closes 41 = .ok (.getfield 7, 3) := by decide +kernel
theorem d_10_closes_44 : decode cX10_closes 44 = .ok (.sipush 1106, 3) := by decide +kernel
theorem d_10_closes_47 : decode cX10_closes 47 = .ok (.bipush 19, 2) := by decide +kernel
theorem d_10_closes_49 : decode cX10_closes 49 = .ok (.iload_n 1, 1) := by decide +kernel
theorem d_10_closes_50 : decode cX10_closes 50 = .ok (.imul, 1) := by decide +kernel
theorem d_10_closes_51 : decode cX10_closes 51 = .ok (.iadd, 1) := by decide +kernel
theorem d_10_closes_52 : decode cX10_closes 52 = .ok (.iload_n 3, 1) := by decide +kernel
theorem d_10_closes_53 : decode cX10_closes 53 = .ok (.iadd, 1) := by decide +kernel
theorem d_10_closes_54 : decode cX10_closes 54 = .ok (.aload_n 0, 1) := by decide +kernel
theorem d_10_closes_55 : decode cX10_closes 55 = .ok (.getfield 7, 3) := by decide +kernel
theorem d_10_closes_58 : decode cX10_closes 58 = .ok (.sipush 1106, 3) := by decide +kernel
theorem d_10_closes_61 : decode cX10_closes 61 = .ok (.bipush 19, 2) := by decide +kernel
theorem d_10_closes_63 : decode cX10_closes 63 = .ok (.iload_n 2, 1) := by decide +kernel
theorem d_10_closes_64 : decode cX10_closes 64 = .ok (.imul, 1) := by decide +kernel
theorem d_10_closes_65 : decode cX10_closes 65 = .ok (.iadd, 1) := by decide +kernel
theorem d_10_closes_66 : decode cX10_closes 66 = .ok (.iload_n 3, 1) := by decide +kernel
theorem d_10_closes_67 : decode cX10_closes 67 = .ok (.iadd, 1) := by decide +kernel
theorem d_10_closes_68 : decode cX10_closes 68 = .ok (.iaload, 1) := by decide +kernel
theorem d_10_closes_69 : decode cX10_closes 69 = .ok (.iastore, 1) := by decide +kernel
theorem d_10_closes_70 : decode cX10_closes 70 = .ok (.iinc 3 1, 3) := by decide +kernel
theorem d_10_closes_73 : decode cX10_closes 73 = .ok (.goto (-39), 3) := by decide +kernel
theorem d_10_closes_76 : decode cX10_closes 76 = .ok (.iinc 1 1, 3) := by decide +kernel
theorem d_10_closes_79 : decode cX10_closes 79 = .ok (.iinc 2 1, 3) := by decide +kernel
theorem d_10_closes_82 : decode cX10_closes 82 = .ok (.goto (-78), 3) := by decide +kernel
theorem d_10_closes_85 : decode cX10_closes 85 = .ok (.bipush 19, 2) := by decide +kernel
theorem d_10_closes_87 : decode cX10_closes 87 = .ok (.iload_n 1, 1) := by decide +kernel
theorem d_10_closes_88 : decode cX10_closes 88 = .ok (.imul, 1) := by decide +kernel
theorem d_10_closes_89 : decode cX10_closes 89 = .ok (.istore_n 2, 1) := by decide +kernel
theorem d_10_closes_90 : decode cX10_closes 90 = .ok (.iload_n 2, 1) := by decide +kernel
theorem d_10_closes_91 : decode cX10_closes 91 = .ok (.sipush 570, 3) := by decide +kernel
theorem d_10_closes_94 : decode cX10_closes 94 = .ok (.if_icmp .ge 20, 3) := by decide +kernel
theorem d_10_closes_97 : decode cX10_closes 97 = .ok (.aload_n 0, 1) := by decide +kernel
theorem d_10_closes_98 : decode cX10_closes 98 = .ok (.getfield 7, 3) := by decide +kernel
theorem d_10_closes_101 : decode cX10_closes 101 = .ok (.sipush 1106, 3) := by decide +kernel
theorem d_10_closes_104 : decode cX10_closes 104 = .ok (.iload_n 2, 1) := by decide +kernel
theorem d_10_closes_105 : decode cX10_closes 105 = .ok (.iadd, 1) := by decide +kernel
theorem d_10_closes_106 : decode cX10_closes 106 = .ok (.iconst 0, 1) := by decide +kernel
theorem d_10_closes_107 : decode cX10_closes 107 = .ok (.iastore, 1) := by decide +kernel
theorem d_10_closes_108 : decode cX10_closes 108 = .ok (.iinc 2 1, 3) := by decide +kernel
theorem d_10_closes_111 : decode cX10_closes 111 = .ok (.goto (-21), 3) := by decide +kernel
theorem d_10_closes_114 : decode cX10_closes 114 = .ok (.aload_n 0, 1) := by decide +kernel
theorem d_10_closes_115 : decode cX10_closes 115 = .ok (.getfield 7, 3) := by decide +kernel
theorem d_10_closes_118 : decode cX10_closes 118 = .ok (.iconst 3, 1) := by decide +kernel
theorem d_10_closes_119 : decode cX10_closes 119 = .ok (.iload_n 1, 1) := by decide +kernel
theorem d_10_closes_120 : decode cX10_closes 120 = .ok (.iastore, 1) := by decide +kernel
theorem d_10_closes_121 : decode cX10_closes 121 = .ok (.return_, 1) := by decide +kernel
theorem d_10_strike_0 : decode cX10_strike 0 = .ok (.aload_n 0, 1) := by decide +kernel
theorem d_10_strike_1 : decode cX10_strike 1 = .ok (.iload_n 1, 1) := by decide +kernel
theorem d_10_strike_2 : decode cX10_strike 2 = .ok (.invokevirtual 92, 3) := by decide +kernel
theorem d_10_strike_5 : decode cX10_strike 5 = .ok (.ifCond .ne 9, 3) := by decide +kernel
theorem d_10_strike_8 : decode cX10_strike 8 = .ok (.aload_n 0, 1) := by decide +kernel
theorem d_10_strike_9 : decode cX10_strike 9 = .ok (.iconst 1, 1) := by decide +kernel
theorem d_10_strike_10 : decode cX10_strike 10 = .ok (.invokevirtual 95, 3) := by decide +kernel
theorem d_10_strike_13 : decode cX10_strike 13 = .ok (.ireturn, 1) := by decide +kernel
theorem d_10_strike_14 : decode cX10_strike 14 = .ok (.iload_n 2, 1) := by decide +kernel
theorem d_10_strike_15 : decode cX10_strike 15 = .ok (.i2l, 1) := by decide +kernel
theorem d_10_strike_16 : decode cX10_strike 16 = .ok (.lconst 1, 1) := by decide +kernel
theorem d_10_strike_17 : decode cX10_strike 17 = .ok (.ldc2_w 99, 3) := by decide +kernel
theorem d_10_strike_20 : decode cX10_strike 20 = .ok (.invokestatic 47, 3) := by decide +kernel
theorem d_10_strike_23 : decode cX10_strike 23 = .ok (.ifCond .ne 9, 3) := by decide +kernel
theorem d_10_strike_26 : decode cX10_strike 26 = .ok (.aload_n 0, 1) := by decide +kernel
theorem d_10_strike_27 : decode cX10_strike 27 = .ok (.iconst 2, 1) := by decide +kernel
theorem d_10_strike_28 : decode cX10_strike 28 = .ok (.invokevirtual 95, 3) := by decide +kernel
theorem d_10_strike_31 : decode cX10_strike 31 = .ok (.ireturn, 1) := by decide +kernel
theorem d_10_strike_32 : decode cX10_strike 32 = .ok (.aload_n 0, 1) := by decide +kernel
theorem d_10_strike_33 : decode cX10_strike 33 = .ok (.iload_n 1, 1) := by decide +kernel
theorem d_10_strike_34 : decode cX10_strike 34 = .ok (.invokevirtual 101, 3) := by decide +kernel
theorem d_10_strike_37 : decode cX10_strike 37 = .ok (.istore_n 3, 1) := by decide +kernel
theorem d_10_strike_38 : decode cX10_strike 38 = .ok (.iload_n 3, 1) := by decide +kernel
theorem d_10_strike_39 : decode cX10_strike 39 = .ok (.bipush 30, 2) := by decide +kernel
theorem d_10_strike_41 : decode cX10_strike 41 = .ok (.if_icmp .ne 9, 3) := by decide +kernel
theorem d_10_strike_44 : decode cX10_strike 44 = .ok (.aload_n 0, 1) := by decide +kernel
theorem d_10_strike_45 : decode cX10_strike 45 = .ok (.iconst 3, 1) := by decide +kernel
theorem d_10_strike_46 : decode cX10_strike 46 = .ok (.invokevirtual 95, 3) := by decide +kernel
theorem d_10_strike_49 : decode cX10_strike 49 = .ok (.ireturn, 1) := by decide +kernel
theorem d_10_strike_50 : decode cX10_strike 50 = .ok (.aload_n 0, 1) := by decide +kernel
theorem d_10_strike_51 : decode cX10_strike 51 = .ok (.invokevirtual 104, 3) := by decide +kernel
theorem d_10_strike_54 : decode cX10_strike 54 = .ok (.sipush 1106, 3) := by decide +kernel
theorem d_10_strike_57 : decode cX10_strike 57 = .ok (.bipush 19, 2) := by decide +kernel
theorem d_10_strike_59 : decode cX10_strike 59 = .ok (.iload_n 3, 1) := by decide +kernel
theorem d_10_strike_60 : decode cX10_strike 60 = .ok (.imul, 1) := by decide +kernel
theorem d_10_strike_61 : decode cX10_strike 61 = .ok (.iadd, 1) := by decide +kernel
theorem d_10_strike_62 : decode cX10_strike 62 = .ok (.istore 4, 2) := by decide +kernel
theorem d_10_strike_64 : decode cX10_strike 64 = .ok (.iload_n 3, 1) := by decide +kernel
theorem d_10_strike_65 : decode cX10_strike 65 = .ok (.aload_n 0, 1) := by decide +kernel
theorem d_10_strike_66 : decode cX10_strike 66 = .ok (.getfield 7, 3) := by decide +kernel
theorem d_10_strike_69 : decode cX10_strike 69 = .ok (.iconst 3, 1) := by decide +kernel
theorem d_10_strike_70 : decode cX10_strike 70 = .ok (.iaload, 1) := by decide +kernel
theorem d_10_strike_71 : decode cX10_strike 71 = .ok (.if_icmp .ne 52, 3) := by decide +kernel
theorem d_10_strike_74 : decode cX10_strike 74 = .ok (.aload_n 0, 1) := by decide +kernel
theorem d_10_strike_75 : decode cX10_strike 75 = .ok (.getfield 7, 3) := by decide +kernel
theorem d_10_strike_78 : decode cX10_strike 78 = .ok (.iload 4, 2) := by decide +kernel
theorem d_10_strike_80 : decode cX10_strike 80 = .ok (.iload_n 1, 1) := by decide +kernel
theorem d_10_strike_81 : decode cX10_strike 81 = .ok (.iastore, 1) := by decide +kernel
theorem d_10_strike_82 : decode cX10_strike 82 = .ok (.aload_n 0, 1) := by decide +kernel
theorem d_10_strike_83 : decode cX10_strike 83 = .ok (.getfield 7, 3) := by decide +kernel
theorem d_10_strike_86 : decode cX10_strike 86 = .ok (.iload 4, 2) := by decide +kernel
theorem d_10_strike_88 : decode cX10_strike 88 = .ok (.iconst 1, 1) := by decide +kernel
theorem d_10_strike_89 : decode cX10_strike 89 = .ok (.iadd, 1) := by decide +kernel
theorem d_10_strike_90 : decode cX10_strike 90 = .ok (.iconst 0, 1) := by decide +kernel
theorem d_10_strike_91 : decode cX10_strike 91 = .ok (.iastore, 1) := by decide +kernel
theorem d_10_strike_92 : decode cX10_strike 92 = .ok (.aload_n 0, 1) := by decide +kernel
theorem d_10_strike_93 : decode cX10_strike 93 = .ok (.iload_n 1, 1) := by decide +kernel
theorem d_10_strike_94 : decode cX10_strike 94 = .ok (.invokevirtual 85, 3) := by decide +kernel
theorem d_10_strike_97 : decode cX10_strike 97 = .ok (.aload_n 0, 1) := by decide +kernel
theorem d_10_strike_98 : decode cX10_strike 98 = .ok (.getfield 22, 3) := by decide +kernel
theorem d_10_strike_101 : decode cX10_strike 101 = .ok (.iconst 0, 1) := by decide +kernel
theorem d_10_strike_102 : decode cX10_strike 102 = .ok (.aload_n 0, 1) := by decide +kernel
theorem d_10_strike_103 : decode cX10_strike 103 = .ok (.getfield 7, 3) := by decide +kernel
theorem d_10_strike_106 : decode cX10_strike 106 = .ok (.iload 4, 2) := by decide +kernel
theorem d_10_strike_108 : decode cX10_strike 108 = .ok (.iconst 2, 1) := by decide +kernel
theorem d_10_strike_109 : decode cX10_strike 109 = .ok (.iadd, 1) := by decide +kernel
theorem d_10_strike_110 : decode cX10_strike 110 = .ok (.invokestatic 70, 3) := by decide +kernel
theorem d_10_strike_113 : decode cX10_strike 113 = .ok (.aload_n 0, 1) := by decide +kernel
theorem d_10_strike_114 : decode cX10_strike 114 = .ok (.getfield 7, 3) := by decide +kernel
theorem d_10_strike_117 : decode cX10_strike 117 = .ok (.iconst 3, 1) := by decide +kernel
theorem d_10_strike_118 : decode cX10_strike 118 = .ok (.dup2, 1) := by decide +kernel
theorem d_10_strike_119 : decode cX10_strike 119 = .ok (.iaload, 1) := by decide +kernel
theorem d_10_strike_120 : decode cX10_strike 120 = .ok (.iconst 1, 1) := by decide +kernel
theorem d_10_strike_121 : decode cX10_strike 121 = .ok (.iadd, 1) := by decide +kernel
theorem d_10_strike_122 : decode cX10_strike 122 = .ok (.iastore, 1) := by decide +kernel
theorem d_10_strike_123 : decode cX10_strike 123 = .ok (.aload_n 0, 1) := by decide +kernel
theorem d_10_strike_124 : decode cX10_strike 124 = .ok (.getfield 7, 3) := by decide +kernel
theorem d_10_strike_127 : decode cX10_strike 127 = .ok (.iload 4, 2) := by decide +kernel
theorem d_10_strike_129 : decode cX10_strike 129 = .ok (.iconst 1, 1) := by decide +kernel
theorem d_10_strike_130 : decode cX10_strike 130 = .ok (.iadd, 1) := by decide +kernel
theorem d_10_strike_131 : decode cX10_strike 131 = .ok (.dup2, 1) := by decide +kernel
theorem d_10_strike_132 : decode cX10_strike 132 = .ok (.iaload, 1) := by decide +kernel
theorem d_10_strike_133 : decode cX10_strike 133 = .ok (.iload_n 2, 1) := by decide +kernel
theorem d_10_strike_134 : decode cX10_strike 134 = .ok (.iadd, 1) := by decide +kernel
theorem d_10_strike_135 : decode cX10_strike 135 = .ok (.iastore, 1) := by decide +kernel
theorem d_10_strike_136 : decode cX10_strike 136 = .ok (.aload_n 0, 1) := by decide +kernel
theorem d_10_strike_137 : decode cX10_strike 137 = .ok (.getfield 7, 3) := by decide +kernel
theorem d_10_strike_140 : decode cX10_strike 140 = .ok (.iconst 4, 1) := by decide +kernel
theorem d_10_strike_141 : decode cX10_strike 141 = .ok (.dup2, 1) := by decide +kernel
theorem d_10_strike_142 : decode cX10_strike 142 = .ok (.iaload, 1) := by decide +kernel
theorem d_10_strike_143 : decode cX10_strike 143 = .ok (.iload_n 2, 1) := by decide +kernel
theorem d_10_strike_144 : decode cX10_strike 144 = .ok (.iadd, 1) := by decide +kernel
theorem d_10_strike_145 : decode cX10_strike 145 = .ok (.iastore, 1) := by decide +kernel
theorem d_10_strike_146 : decode cX10_strike 146 = .ok (.aload_n 0, 1) := by decide +kernel
theorem d_10_strike_147 : decode cX10_strike 147 = .ok (.iload_n 1, 1) := by decide +kernel
theorem d_10_strike_148 : decode cX10_strike 148 = .ok (.invokevirtual 107, 3) := by decide +kernel
theorem d_10_strike_151 : decode cX10_strike 151 = .ok (.ireturn, 1) := by decide +kernel
theorem d_10_melt_0 : decode cX10_melt 0 = .ok (.aload_n 0, 1) := by decide +kernel
theorem d_10_melt_1 : decode cX10_melt 1 = .ok (.iload_n 1, 1) := by decide +kernel
theorem d_10_melt_2 : decode cX10_melt 2 = .ok (.invokevirtual 92, 3) := by decide +kernel
theorem d_10_melt_5 : decode cX10_melt 5 = .ok (.ifCond .ne 9, 3) := by decide +kernel
theorem d_10_melt_8 : decode cX10_melt 8 = .ok (.aload_n 0, 1) := by decide +kernel
theorem d_10_melt_9 : decode cX10_melt 9 = .ok (.iconst 1, 1) := by decide +kernel
theorem d_10_melt_10 : decode cX10_melt 10 = .ok (.invokevirtual 95, 3) := by decide +kernel
theorem d_10_melt_13 : decode cX10_melt 13 = .ok (.ireturn, 1) := by decide +kernel
theorem d_10_melt_14 : decode cX10_melt 14 = .ok (.iload_n 2, 1) := by decide +kernel
theorem d_10_melt_15 : decode cX10_melt 15 = .ok (.i2l, 1) := by decide +kernel
theorem d_10_melt_16 : decode cX10_melt 16 = .ok (.lconst 1, 1) := by decide +kernel
theorem d_10_melt_17 : decode cX10_melt 17 = .ok (.ldc2_w 99, 3) := by decide +kernel
theorem d_10_melt_20 : decode cX10_melt 20 = .ok (.invokestatic 47, 3) := by decide +kernel
theorem d_10_melt_23 : decode cX10_melt 23 = .ok (.ifCond .ne 9, 3) := by decide +kernel
theorem d_10_melt_26 : decode cX10_melt 26 = .ok (.aload_n 0, 1) := by decide +kernel
theorem d_10_melt_27 : decode cX10_melt 27 = .ok (.iconst 2, 1) := by decide +kernel
theorem d_10_melt_28 : decode cX10_melt 28 = .ok (.invokevirtual 95, 3) := by decide +kernel
theorem d_10_melt_31 : decode cX10_melt 31 = .ok (.ireturn, 1) := by decide +kernel
theorem d_10_melt_32 : decode cX10_melt 32 = .ok (.aload_n 0, 1) := by decide +kernel
theorem d_10_melt_33 : decode cX10_melt 33 = .ok (.iload_n 1, 1) := by decide +kernel
theorem d_10_melt_34 : decode cX10_melt 34 = .ok (.invokevirtual 107, 3) := by decide +kernel
theorem d_10_melt_37 : decode cX10_melt 37 = .ok (.iload_n 2, 1) := by decide +kernel
theorem d_10_melt_38 : decode cX10_melt 38 = .ok (.if_icmp .ge 9, 3) := by decide +kernel
theorem d_10_melt_41 : decode cX10_melt 41 = .ok (.aload_n 0, 1) := by decide +kernel
theorem d_10_melt_42 : decode cX10_melt 42 = .ok (.iconst 3, 1) := by decide +kernel
theorem d_10_melt_43 : decode cX10_melt 43 = .ok (.invokevirtual 95, 3) := by decide +kernel
theorem d_10_melt_46 : decode cX10_melt 46 = .ok (.ireturn, 1) := by decide +kernel
theorem d_10_melt_47 : decode cX10_melt 47 = .ok (.aload_n 0, 1) := by decide +kernel
theorem d_10_melt_48 : decode cX10_melt 48 = .ok (.invokevirtual 104, 3) := by decide +kernel
theorem d_10_melt_51 : decode cX10_melt 51 = .ok (.iload_n 2, 1) := by decide +kernel
theorem d_10_melt_52 : decode cX10_melt 52 = .ok (.istore_n 3, 1) := by decide +kernel
theorem d_10_melt_53 : decode cX10_melt 53 = .ok (.iconst 0, 1) := by decide +kernel
theorem d_10_melt_54 : decode cX10_melt 54 = .ok (.istore 4, 2) := by decide +kernel
theorem d_10_melt_56 : decode cX10_melt 56 = .ok (.iload 4, 2) := by decide +kernel
theorem d_10_melt_58 : decode cX10_melt 58 = .ok (.aload_n 0, 1) := by decide +kernel
theorem d_10_melt_59 : decode cX10_melt 59 = .ok (.getfield 7, 3) := by decide +kernel
theorem d_10_melt_62 : decode cX10_melt 62 = .ok (.iconst 3, 1) := by decide +kernel
theorem d_10_melt_63 : decode cX10_melt 63 = .ok (.iaload, 1) := by decide +kernel
theorem d_10_melt_64 : decode cX10_melt 64 = .ok (.if_icmp .ge 82, 3) := by decide +kernel
theorem d_10_melt_67 : decode cX10_melt 67 = .ok (.sipush 1106, 3) := by decide +kernel
theorem d_10_melt_70 : decode cX10_melt 70 = .ok (.bipush 19, 2) := by decide +kernel
theorem d_10_melt_72 : decode cX10_melt 72 = .ok (.iload 4, 2) := by decide +kernel
theorem d_10_melt_74 : decode cX10_melt 74 = .ok (.imul, 1) := by decide +kernel
theorem d_10_melt_75 : decode cX10_melt 75 = .ok (.iadd, 1) := by decide +kernel
theorem d_10_melt_76 : decode cX10_melt 76 = .ok (.istore 5, 2) := by decide +kernel
theorem d_10_melt_78 : decode cX10_melt 78 = .ok (.aload_n 0, 1) := by decide +kernel
theorem d_10_melt_79 : decode cX10_melt 79 = .ok (.getfield 7, 3) := by decide +kernel
theorem d_10_melt_82 : decode cX10_melt 82 = .ok (.iload 5, 2) := by decide +kernel
theorem d_10_melt_84 : decode cX10_melt 84 = .ok (.iaload, 1) := by decide +kernel
theorem d_10_melt_85 : decode cX10_melt 85 = .ok (.iload_n 1, 1) := by decide +kernel
theorem d_10_melt_86 : decode cX10_melt 86 = .ok (.if_icmp .eq 7, 3) := by decide +kernel
theorem d_10_melt_89 : decode cX10_melt 89 = .ok (.iconst 0, 1) := by decide +kernel
theorem d_10_melt_90 : decode cX10_melt 90 = .ok (.goto 29, 3) := by decide +kernel
theorem d_10_melt_93 : decode cX10_melt 93 = .ok (.aload_n 0, 1) := by decide +kernel
theorem d_10_melt_94 : decode cX10_melt 94 = .ok (.getfield 7, 3) := by decide +kernel
theorem d_10_melt_97 : decode cX10_melt 97 = .ok (.iload 5, 2) := by decide +kernel
theorem d_10_melt_99 : decode cX10_melt 99 = .ok (.iconst 1, 1) := by decide +kernel
theorem d_10_melt_100 : decode cX10_melt 100 = .ok (.iadd, 1) := by decide +kernel
theorem d_10_melt_101 : decode cX10_melt 101 = .ok (.iaload, 1) := by decide +kernel
theorem d_10_melt_102 : decode cX10_melt 102 = .ok (.iload_n 3, 1) := by decide +kernel
theorem d_10_melt_103 : decode cX10_melt 103 = .ok (.if_icmp .ge 15, 3) := by decide +kernel
theorem d_10_melt_106 : decode cX10_melt 106 = .ok (.aload_n 0, 1) := by decide +kernel
theorem d_10_melt_107 : decode cX10_melt 107 = .ok (.getfield 7, 3) := by decide +kernel
theorem d_10_melt_110 : decode cX10_melt 110 = .ok (.iload 5, 2) := by decide +kernel
theorem d_10_melt_112 : decode cX10_melt 112 = .ok (.iconst 1, 1) := by decide +kernel
theorem d_10_melt_113 : decode cX10_melt 113 = .ok (.iadd, 1) := by decide +kernel
theorem d_10_melt_114 : decode cX10_melt 114 = .ok (.iaload, 1) := by decide +kernel
theorem d_10_melt_115 : decode cX10_melt 115 = .ok (.goto 4, 3) := by decide +kernel
theorem d_10_melt_118 : decode cX10_melt 118 = .ok (.iload_n 3, 1) := by decide +kernel
theorem d_10_melt_119 : decode cX10_melt 119 = .ok (.istore 6, 2) := by decide +kernel
theorem d_10_melt_121 : decode cX10_melt 121 = .ok (.aload_n 0, 1) := by decide +kernel
theorem d_10_melt_122 : decode cX10_melt 122 = .ok (.getfield 7, 3) := by decide +kernel
theorem d_10_melt_125 : decode cX10_melt 125 = .ok (.iload 5, 2) := by decide +kernel
theorem d_10_melt_127 : decode cX10_melt 127 = .ok (.iconst 1, 1) := by decide +kernel
theorem d_10_melt_128 : decode cX10_melt 128 = .ok (.iadd, 1) := by decide +kernel
theorem d_10_melt_129 : decode cX10_melt 129 = .ok (.dup2, 1) := by decide +kernel
theorem d_10_melt_130 : decode cX10_melt 130 = .ok (.iaload, 1) := by decide +kernel
theorem d_10_melt_131 : decode cX10_melt 131 = .ok (.iload 6, 2) := by decide +kernel
theorem d_10_melt_133 : decode cX10_melt 133 = .ok (.isub, 1) := by decide +kernel
theorem d_10_melt_134 : decode cX10_melt 134 = .ok (.iastore, 1) := by decide +kernel
theorem d_10_melt_135 : decode cX10_melt 135 = .ok (.iload_n 3, 1) := by decide +kernel
theorem d_10_melt_136 : decode cX10_melt 136 = .ok (.iload 6, 2) := by decide +kernel
theorem d_10_melt_138 : decode cX10_melt 138 = .ok (.isub, 1) := by decide +kernel
theorem d_10_melt_139 : decode cX10_melt 139 = .ok (.istore_n 3, 1) := by decide +kernel
theorem d_10_melt_140 : decode cX10_melt 140 = .ok (.iinc 4 1, 3) := by decide +kernel
theorem d_10_melt_143 : decode cX10_melt 143 = .ok (.goto (-87), 3) := by decide +kernel
theorem d_10_melt_146 : decode cX10_melt 146 = .ok (.aload_n 0, 1) := by decide +kernel
theorem d_10_melt_147 : decode cX10_melt 147 = .ok (.getfield 7, 3) := by decide +kernel
theorem d_10_melt_150 : decode cX10_melt 150 = .ok (.iconst 5, 1) := by decide +kernel
theorem d_10_melt_151 : decode cX10_melt 151 = .ok (.dup2, 1) := by decide +kernel
theorem d_10_melt_152 : decode cX10_melt 152 = .ok (.iaload, 1) := by decide +kernel
theorem d_10_melt_153 : decode cX10_melt 153 = .ok (.iload_n 2, 1) := by decide +kernel
theorem d_10_melt_154 : decode cX10_melt 154 = .ok (.iadd, 1) := by decide +kernel
theorem d_10_melt_155 : decode cX10_melt 155 = .ok (.iastore, 1) := by decide +kernel
theorem d_10_melt_156 : decode cX10_melt 156 = .ok (.aload_n 0, 1) := by decide +kernel
theorem d_10_melt_157 : decode cX10_melt 157 = .ok (.invokevirtual 110, 3) := by decide +kernel
theorem d_10_melt_160 : decode cX10_melt 160 = .ok (.aload_n 0, 1) := by decide +kernel
theorem d_10_melt_161 : decode cX10_melt 161 = .ok (.iload_n 1, 1) := by decide +kernel
theorem d_10_melt_162 : decode cX10_melt 162 = .ok (.invokevirtual 107, 3) := by decide +kernel
theorem d_10_melt_165 : decode cX10_melt 165 = .ok (.ireturn, 1) := by decide +kernel
theorem d_10_stale_0 : decode cX10_stale 0 = .ok (.iconst 0, 1) := by decide +kernel
theorem d_10_stale_1 : decode cX10_stale 1 = .ok (.istore_n 1, 1) := by decide +kernel
theorem d_10_stale_2 : decode cX10_stale 2 = .ok (.iconst 0, 1) := by decide +kernel
theorem d_10_stale_3 : decode cX10_stale 3 = .ok (.istore_n 2, 1) := by decide +kernel
theorem d_10_stale_4 : decode cX10_stale 4 = .ok (.iload_n 2, 1) := by decide +kernel
theorem d_10_stale_5 : decode cX10_stale 5 = .ok (.aload_n 0, 1) := by decide +kernel
theorem d_10_stale_6 : decode cX10_stale 6 = .ok (.getfield 7, 3) := by decide +kernel
theorem d_10_stale_9 : decode cX10_stale 9 = .ok (.iconst 3, 1) := by decide +kernel
theorem d_10_stale_10 : decode cX10_stale 10 = .ok (.iaload, 1) := by decide +kernel
theorem d_10_stale_11 : decode cX10_stale 11 = .ok (.if_icmp .ge 39, 3) := by decide +kernel
theorem d_10_stale_14 : decode cX10_stale 14 = .ok (.iload_n 1, 1) := by decide +kernel
theorem d_10_stale_15 : decode cX10_stale 15 = .ok (.aload_n 0, 1) := by decide +kernel
theorem d_10_stale_16 : decode cX10_stale 16 = .ok (.iload_n 2, 1) := by decide +kernel
theorem d_10_stale_17 : decode cX10_stale 17 = .ok (.invokevirtual 89, 3) := by decide +kernel
theorem d_10_stale_20 : decode cX10_stale 20 = .ok (.ifCond .eq 21, 3) := by decide +kernel
theorem d_10_stale_23 : decode cX10_stale 23 = .ok (.aload_n 0, 1) := by decide +kernel
theorem d_10_stale_24 : decode cX10_stale 24 = .ok (.getfield 7, 3) := by decide +kernel
theorem d_10_stale_27 : decode cX10_stale 27 = .ok (.sipush 1106, 3) := by decide +kernel
theorem d_10_stale_30 : decode cX10_stale 30 = .ok (.bipush 19, 2) := by decide +kernel
theorem d_10_stale_32 : decode cX10_stale 32 = .ok (.iload_n 2, 1) := by decide +kernel
theorem d_10_stale_33 : decode cX10_stale 33 = .ok (.imul, 1) := by decide +kernel
theorem d_10_stale_34 : decode cX10_stale 34 = .ok (.iadd, 1) := by decide +kernel
theorem d_10_stale_35 : decode cX10_stale 35 = .ok (.iconst 1, 1) := by decide +kernel
theorem d_10_stale_36 : decode cX10_stale 36 = .ok (.iadd, 1) := by decide +kernel
theorem d_10_stale_37 : decode cX10_stale 37 = .ok (.iaload, 1) := by decide +kernel
theorem d_10_stale_38 : decode cX10_stale 38 = .ok (.goto 4, 3) := by decide +kernel
theorem d_10_stale_41 : decode cX10_stale 41 = .ok (.iconst 0, 1) := by decide +kernel
theorem d_10_stale_42 : decode cX10_stale 42 = .ok (.iadd, 1) := by decide +kernel
theorem d_10_stale_43 : decode cX10_stale 43 = .ok (.istore_n 1, 1) := by decide +kernel
theorem d_10_stale_44 : decode cX10_stale 44 = .ok (.iinc 2 1, 3) := by decide +kernel
theorem d_10_stale_47 : decode cX10_stale 47 = .ok (.goto (-43), 3) := by decide +kernel
theorem d_10_stale_50 : decode cX10_stale 50 = .ok (.iload_n 1, 1) := by decide +kernel
theorem d_10_stale_51 : decode cX10_stale 51 = .ok (.ireturn, 1) := by decide +kernel
theorem d_10_meltStale_0 : decode cX10_meltStale 0 = .ok (.aload_n 0, 1) := by decide +kernel
theorem d_10_meltStale_1 : decode cX10_meltStale 1 = .ok (.invokevirtual 104, 3) := by decide +kernel
theorem d_10_meltStale_4 : decode cX10_meltStale 4 = .ok (.aload_n 0, 1) := by decide +kernel
theorem d_10_meltStale_5 : decode cX10_meltStale 5 = .ok (.invokevirtual 113, 3) := by decide +kernel
theorem d_10_meltStale_8 : decode cX10_meltStale 8 = .ok (.istore_n 1, 1) := by decide +kernel
theorem d_10_meltStale_9 : decode cX10_meltStale 9 = .ok (.iconst 0, 1) := by decide +kernel
theorem d_10_meltStale_10 : decode cX10_meltStale 10 = .ok (.istore_n 2, 1) := by decide +kernel
theorem d_10_meltStale_11 : decode cX10_meltStale 11 = .ok (.iload_n 2, 1) := by decide +kernel
theorem d_10_meltStale_12 : decode cX10_meltStale 12 = .ok (.aload_n 0, 1) := by decide +kernel
theorem d_10_meltStale_13 : decode cX10_meltStale 13 = .ok (.getfield 7, 3) := by decide +kernel
theorem d_10_meltStale_16 : decode cX10_meltStale 16 = .ok (.iconst 3, 1) := by decide +kernel
theorem d_10_meltStale_17 : decode cX10_meltStale 17 = .ok (.iaload, 1) := by decide +kernel
theorem d_10_meltStale_18 : decode cX10_meltStale 18 = .ok (.if_icmp .ge 51, 3) := by decide +kernel
theorem d_10_meltStale_21 : decode cX10_meltStale 21 = .ok (.aload_n 0, 1) := by decide +kernel
theorem d_10_meltStale_22 : decode cX10_meltStale 22 = .ok (.getfield 7, 3) := by decide +kernel
theorem d_10_meltStale_25 : decode cX10_meltStale 25 = .ok (.sipush 1106, 3) := by decide +kernel
theorem d_10_meltStale_28 : decode cX10_meltStale 28 = .ok (.bipush 19, 2) := by decide +kernel
theorem d_10_meltStale_30 : decode cX10_meltStale 30 = .ok (.iload_n 2, 1) := by decide +kernel
theorem d_10_meltStale_31 : decode cX10_meltStale 31 = .ok (.imul, 1) := by decide +kernel
theorem d_10_meltStale_32 : decode cX10_meltStale 32 = .ok (.iadd, 1) := by decide +kernel
theorem d_10_meltStale_33 : decode cX10_meltStale 33 = .ok (.iconst 1, 1) := by decide +kernel
theorem d_10_meltStale_34 : decode cX10_meltStale 34 = .ok (.iadd, 1) := by decide +kernel
theorem d_10_meltStale_35 : decode cX10_meltStale 35 = .ok (.aload_n 0, 1) := by decide +kernel
theorem d_10_meltStale_36 : decode cX10_meltStale 36 = .ok (.iload_n 2, 1) := by decide +kernel
theorem d_10_meltStale_37 : decode cX10_meltStale 37 = .ok (.invokevirtual 89, 3) := by decide +kernel
theorem d_10_meltStale_40 : decode cX10_meltStale 40 = .ok (.ifCond .eq 7, 3) := by decide +kernel
theorem d_10_meltStale_43 : decode cX10_meltStale 43 = .ok (.iconst 0, 1) := by decide +kernel
theorem d_10_meltStale_44 : decode cX10_meltStale 44 = .ok (.goto 18, 3) := by decide +kernel
theorem d_10_meltStale_47 : decode cX10_meltStale 47 = .ok (.aload_n 0, 1) := by decide +kernel
theorem d_10_meltStale_48 : decode cX10_meltStale 48 = .ok (.getfield 7, 3) := by decide +kernel
theorem d_10_meltStale_51 : decode cX10_meltStale 51 = .ok (.sipush 1106, 3) := by decide +kernel
theorem d_10_meltStale_54 : decode cX10_meltStale 54 = .ok (.bipush 19, 2) := by decide +kernel
theorem d_10_meltStale_56 : decode cX10_meltStale 56 = .ok (.iload_n 2, 1) := by decide +kernel
theorem d_10_meltStale_57 : decode cX10_meltStale 57 = .ok (.imul, 1) := by decide +kernel
theorem d_10_meltStale_58 : decode cX10_meltStale 58 = .ok (.iadd, 1) := by decide +kernel
theorem d_10_meltStale_59 : decode cX10_meltStale 59 = .ok (.iconst 1, 1) := by decide +kernel
theorem d_10_meltStale_60 : decode cX10_meltStale 60 = .ok (.iadd, 1) := by decide +kernel
theorem d_10_meltStale_61 : decode cX10_meltStale 61 = .ok (.iaload, 1) := by decide +kernel
theorem d_10_meltStale_62 : decode cX10_meltStale 62 = .ok (.iastore, 1) := by decide +kernel
theorem d_10_meltStale_63 : decode cX10_meltStale 63 = .ok (.iinc 2 1, 3) := by decide +kernel
theorem d_10_meltStale_66 : decode cX10_meltStale 66 = .ok (.goto (-55), 3) := by decide +kernel
theorem d_10_meltStale_69 : decode cX10_meltStale 69 = .ok (.aload_n 0, 1) := by decide +kernel
theorem d_10_meltStale_70 : decode cX10_meltStale 70 = .ok (.getfield 7, 3) := by decide +kernel
theorem d_10_meltStale_73 : decode cX10_meltStale 73 = .ok (.iconst 5, 1) := by decide +kernel
theorem d_10_meltStale_74 : decode cX10_meltStale 74 = .ok (.dup2, 1) := by decide +kernel
theorem d_10_meltStale_75 : decode cX10_meltStale 75 = .ok (.iaload, 1) := by decide +kernel
theorem d_10_meltStale_76 : decode cX10_meltStale 76 = .ok (.iload_n 1, 1) := by decide +kernel
theorem d_10_meltStale_77 : decode cX10_meltStale 77 = .ok (.iadd, 1) := by decide +kernel
theorem d_10_meltStale_78 : decode cX10_meltStale 78 = .ok (.iastore, 1) := by decide +kernel
theorem d_10_meltStale_79 : decode cX10_meltStale 79 = .ok (.aload_n 0, 1) := by decide +kernel
theorem d_10_meltStale_80 : decode cX10_meltStale 80 = .ok (.invokevirtual 110, 3) := by decide +kernel
theorem d_10_meltStale_83 : decode cX10_meltStale 83 = .ok (.iload_n 1, 1) := by decide +kernel
theorem d_10_meltStale_84 : decode cX10_meltStale 84 = .ok (.ireturn, 1) := by decide +kernel
theorem d_10_dropDie_0 : decode cX10_dropDie 0 = .ok (.aload_n 0, 1) := by decide +kernel
theorem d_10_dropDie_1 : decode cX10_dropDie 1 = .ok (.iload_n 1, 1) := by decide +kernel
theorem d_10_dropDie_2 : decode cX10_dropDie 2 = .ok (.invokevirtual 117, 3) := by decide +kernel
theorem d_10_dropDie_5 : decode cX10_dropDie 5 = .ok (.ifCond .ne 9, 3) := by decide +kernel
theorem d_10_dropDie_8 : decode cX10_dropDie 8 = .ok (.aload_n 0, 1) := by decide +kernel
theorem d_10_dropDie_9 : decode cX10_dropDie 9 = .ok (.iconst 1, 1) := by decide +kernel
theorem d_10_dropDie_10 : decode cX10_dropDie 10 = .ok (.invokevirtual 95, 3) := by decide +kernel
theorem d_10_dropDie_13 : decode cX10_dropDie 13 = .ok (.ireturn, 1) := by decide +kernel
theorem d_10_dropDie_14 : decode cX10_dropDie 14 = .ok (.iload_n 1, 1) := by decide +kernel
theorem d_10_dropDie_15 : decode cX10_dropDie 15 = .ok (.ifCond .ne 9, 3) := by decide +kernel
theorem d_10_dropDie_18 : decode cX10_dropDie 18 = .ok (.aload_n 0, 1) := by decide +kernel
theorem d_10_dropDie_19 : decode cX10_dropDie 19 = .ok (.iconst 2, 1) := by decide +kernel
theorem d_10_dropDie_20 : decode cX10_dropDie 20 = .ok (.invokevirtual 95, 3) := by decide +kernel
theorem d_10_dropDie_23 : decode cX10_dropDie 23 = .ok (.ireturn, 1) := by decide +kernel
theorem d_10_dropDie_24 : decode cX10_dropDie 24 = .ok (.aload_n 0, 1) := by decide +kernel
theorem d_10_dropDie_25 : decode cX10_dropDie 25 = .ok (.invokevirtual 104, 3) := by decide +kernel
theorem d_10_dropDie_28 : decode cX10_dropDie 28 = .ok (.aload_n 0, 1) := by decide +kernel
theorem d_10_dropDie_29 : decode cX10_dropDie 29 = .ok (.getfield 7, 3) := by decide +kernel
theorem d_10_dropDie_32 : decode cX10_dropDie 32 = .ok (.iconst 0, 1) := by decide +kernel
theorem d_10_dropDie_33 : decode cX10_dropDie 33 = .ok (.dup2, 1) := by decide +kernel
theorem d_10_dropDie_34 : decode cX10_dropDie 34 = .ok (.iaload, 1) := by decide +kernel
theorem d_10_dropDie_35 : decode cX10_dropDie 35 = .ok (.iconst 1, 1) := by decide +kernel
theorem d_10_dropDie_36 : decode cX10_dropDie 36 = .ok (.isub, 1) := by decide +kernel
theorem d_10_dropDie_37 : decode cX10_dropDie 37 = .ok (.iastore, 1) := by decide +kernel
theorem d_10_dropDie_38 : decode cX10_dropDie 38 = .ok (.bipush 35, 2) := by decide +kernel
theorem d_10_dropDie_40 : decode cX10_dropDie 40 = .ok (.iload_n 1, 1) := by decide +kernel
theorem d_10_dropDie_41 : decode cX10_dropDie 41 = .ok (.imul, 1) := by decide +kernel
theorem d_10_dropDie_42 : decode cX10_dropDie 42 = .ok (.istore_n 2, 1) := by decide +kernel
theorem d_10_dropDie_43 : decode cX10_dropDie 43 = .ok (.iload_n 2, 1) := by decide +kernel
theorem d_10_dropDie_44 : decode cX10_dropDie 44 = .ok (.bipush 35, 2) := by decide +kernel
theorem d_10_dropDie_46 : decode cX10_dropDie 46 = .ok (.aload_n 0, 1) := by decide +kernel
theorem d_10_dropDie_47 : decode cX10_dropDie 47 = .ok (.getfield 7, 3) := by decide +kernel
theorem d_10_dropDie_50 : decode cX10_dropDie 50 = .ok (.iconst 0, 1) := by decide +kernel
theorem d_10_dropDie_51 : decode cX10_dropDie 51 = .ok (.iaload, 1) := by decide +kernel
theorem d_10_dropDie_52 : decode cX10_dropDie 52 = .ok (.imul, 1) := by decide +kernel
theorem d_10_dropDie_53 : decode cX10_dropDie 53 = .ok (.if_icmp .ge 30, 3) := by decide +kernel
theorem d_10_dropDie_56 : decode cX10_dropDie 56 = .ok (.aload_n 0, 1) := by decide +kernel
theorem d_10_dropDie_57 : decode cX10_dropDie 57 = .ok (.getfield 7, 3) := by decide +kernel
theorem d_10_dropDie_60 : decode cX10_dropDie 60 = .ok (.bipush 6, 2) := by decide +kernel
theorem d_10_dropDie_62 : decode cX10_dropDie 62 = .ok (.iload_n 2, 1) := by decide +kernel
theorem d_10_dropDie_63 : decode cX10_dropDie 63 = .ok (.iadd, 1) := by decide +kernel
theorem d_10_dropDie_64 : decode cX10_dropDie 64 = .ok (.aload_n 0, 1) := by decide +kernel
theorem d_10_dropDie_65 : decode cX10_dropDie 65 = .ok (.getfield 7, 3) := by decide +kernel
theorem d_10_dropDie_68 : decode cX10_dropDie 68 = .ok (.bipush 6, 2) := by decide +kernel
theorem d_10_dropDie_70 : decode cX10_dropDie 70 = .ok (.iload_n 2, 1) := by decide +kernel
theorem d_10_dropDie_71 : decode cX10_dropDie 71 = .ok (.iadd, 1) := by decide +kernel
theorem d_10_dropDie_72 : decode cX10_dropDie 72 = .ok (.bipush 35, 2) := by decide +kernel
theorem d_10_dropDie_74 : decode cX10_dropDie 74 = .ok (.iadd, 1) := by decide +kernel
theorem d_10_dropDie_75 : decode cX10_dropDie 75 = .ok (.iaload, 1) := by decide +kernel
theorem d_10_dropDie_76 : decode cX10_dropDie 76 = .ok (.iastore, 1) := by decide +kernel
theorem d_10_dropDie_77 : decode cX10_dropDie 77 = .ok (.iinc 2 1, 3) := by decide +kernel
theorem d_10_dropDie_80 : decode cX10_dropDie 80 = .ok (.goto (-37), 3) := by decide +kernel
theorem d_10_dropDie_83 : decode cX10_dropDie 83 = .ok (.aload_n 0, 1) := by decide +kernel
theorem d_10_dropDie_84 : decode cX10_dropDie 84 = .ok (.getfield 7, 3) := by decide +kernel
theorem d_10_dropDie_87 : decode cX10_dropDie 87 = .ok (.iconst 0, 1) := by decide +kernel
theorem d_10_dropDie_88 : decode cX10_dropDie 88 = .ok (.iaload, 1) := by decide +kernel
theorem d_10_dropDie_89 : decode cX10_dropDie 89 = .ok (.ireturn, 1) := by decide +kernel
theorem d_10_dropIrregular_0 : decode cX10_dropIrregular 0 = .ok (.aload_n 0, 1) := by decide +kernel
theorem d_10_dropIrregular_1 : decode cX10_dropIrregular 1 = .ok (.getfield 7, 3) := by decide +kernel
theorem d_10_dropIrregular_4 : decode cX10_dropIrregular 4 = .ok (.iconst 1, 1) := by decide +kernel
theorem d_10_dropIrregular_5 : decode cX10_dropIrregular 5 = .ok (.iaload, 1) := by decide +kernel
theorem d_10_dropIrregular_6 : decode cX10_dropIrregular 6 = .ok (.ifCond .ne 9, 3) := by decide +kernel
theorem d_10_dropIrregular_9 : decode cX10_dropIrregular 9 = .ok (.aload_n 0, 1) := by decide +kernel
theorem d_10_dropIrregular_10 : decode cX10_dropIrregular 10 = .ok (.iconst 1, 1) := by decide +kernel
theorem d_10_dropIrregular_11 : decode cX10_dropIrregular 11 = .ok (.invokevirtual 95, 3) := by decide +kernel
theorem d_10_dropIrregular_14 : decode cX10_dropIrregular 14 = .ok (.ireturn, 1) := by decide +kernel
theorem d_10_dropIrregular_15 : decode cX10_dropIrregular 15 = .ok (.aload_n 0, 1) := by decide +kernel
theorem d_10_dropIrregular_16 : decode cX10_dropIrregular 16 = .ok (.invokevirtual 104, 3) := by decide +kernel
theorem d_10_dropIrregular_19 : decode cX10_dropIrregular 19 = .ok (.aload_n 0, 1) := by decide +kernel
theorem d_10_dropIrregular_20 : decode cX10_dropIrregular 20 = .ok (.getfield 7, 3) := by decide +kernel
theorem d_10_dropIrregular_23 : decode cX10_dropIrregular 23 = .ok (.iconst 1, 1) := by decide +kernel
theorem d_10_dropIrregular_24 : decode cX10_dropIrregular 24 = .ok (.dup2, 1) := by decide +kernel
theorem d_10_dropIrregular_25 : decode cX10_dropIrregular 25 = .ok (.iaload, 1) := by decide +kernel
theorem d_10_dropIrregular_26 : decode cX10_dropIrregular 26 = .ok (.iconst 1, 1) := by decide +kernel
theorem d_10_dropIrregular_27 : decode cX10_dropIrregular 27 = .ok (.isub, 1) := by decide +kernel
theorem d_10_dropIrregular_28 : decode cX10_dropIrregular 28 = .ok (.iastore, 1) := by decide +kernel
theorem d_10_dropIrregular_29 : decode cX10_dropIrregular 29 = .ok (.aload_n 0, 1) := by decide +kernel
theorem d_10_dropIrregular_30 : decode cX10_dropIrregular 30 = .ok (.getfield 7, 3) := by decide +kernel
theorem d_10_dropIrregular_33 : decode cX10_dropIrregular 33 = .ok (.iconst 1, 1) := by decide +kernel
theorem d_10_dropIrregular_34 : decode cX10_dropIrregular 34 = .ok (.iaload, 1) := by decide +kernel
theorem d_10_dropIrregular_35 : decode cX10_dropIrregular 35 = .ok (.ireturn, 1) := by decide +kernel
theorem d_10_type_0 : decode cX10_type 0 = .ok (.aload_n 0, 1) := by decide +kernel
theorem d_10_type_1 : decode cX10_type 1 = .ok (.getfield 120, 3) := by decide +kernel
theorem d_10_type_4 : decode cX10_type 4 = .ok (.bipush 60, 2) := by decide +kernel
theorem d_10_type_6 : decode cX10_type 6 = .ok (.if_icmp .ne 9, 3) := by decide +kernel
theorem d_10_type_9 : decode cX10_type 9 = .ok (.aload_n 0, 1) := by decide +kernel
theorem d_10_type_10 : decode cX10_type 10 = .ok (.iconst 1, 1) := by decide +kernel
theorem d_10_type_11 : decode cX10_type 11 = .ok (.invokevirtual 95, 3) := by decide +kernel
theorem d_10_type_14 : decode cX10_type 14 = .ok (.ireturn, 1) := by decide +kernel
theorem d_10_type_15 : decode cX10_type 15 = .ok (.aload_n 0, 1) := by decide +kernel
theorem d_10_type_16 : decode cX10_type 16 = .ok (.iconst 0, 1) := by decide +kernel
theorem d_10_type_17 : decode cX10_type 17 = .ok (.putfield 40, 3) := by decide +kernel
theorem d_10_type_20 : decode cX10_type 20 = .ok (.aload_n 0, 1) := by decide +kernel
theorem d_10_type_21 : decode cX10_type 21 = .ok (.getfield 25, 3) := by decide +kernel
theorem d_10_type_24 : decode cX10_type 24 = .ok (.aload_n 0, 1) := by decide +kernel
theorem d_10_type_25 : decode cX10_type 25 = .ok (.getfield 120, 3) := by decide +kernel
theorem d_10_type_28 : decode cX10_type 28 = .ok (.iload_n 1, 1) := by decide +kernel
theorem d_10_type_29 : decode cX10_type 29 = .ok (.iastore, 1) := by decide +kernel
theorem d_10_type_30 : decode cX10_type 30 = .ok (.aload_n 0, 1) := by decide +kernel
theorem d_10_type_31 : decode cX10_type 31 = .ok (.dup, 1) := by decide +kernel
theorem d_10_type_32 : decode cX10_type 32 = .ok (.getfield 120, 3) := by decide +kernel
theorem d_10_type_35 : decode cX10_type 35 = .ok (.iconst 1, 1) := by decide +kernel
theorem d_10_type_36 : decode cX10_type 36 = .ok (.iadd, 1) := by decide +kernel
theorem d_10_type_37 : decode cX10_type 37 = .ok (.putfield 120, 3) := by decide +kernel
theorem d_10_type_40 : decode cX10_type 40 = .ok (.aload_n 0, 1) := by decide +kernel
theorem d_10_type_41 : decode cX10_type 41 = .ok (.getfield 120, 3) := by decide +kernel
theorem d_10_type_44 : decode cX10_type 44 = .ok (.ireturn, 1) := by decide +kernel
theorem d_10_clearText_0 : decode cX10_clearText 0 = .ok (.aload_n 0, 1) := by decide +kernel
theorem d_10_clearText_1 : decode cX10_clearText 1 = .ok (.iconst 0, 1) := by decide +kernel
theorem d_10_clearText_2 : decode cX10_clearText 2 = .ok (.putfield 40, 3) := by decide +kernel
theorem d_10_clearText_5 : decode cX10_clearText 5 = .ok (.aload_n 0, 1) := by decide +kernel
theorem d_10_clearText_6 : decode cX10_clearText 6 = .ok (.getfield 120, 3) := by decide +kernel
theorem d_10_clearText_9 : decode cX10_clearText 9 = .ok (.istore_n 1, 1) := by decide +kernel
theorem d_10_clearText_10 : decode cX10_clearText 10 = .ok (.aload_n 0, 1) := by decide +kernel
theorem d_10_clearText_11 : decode cX10_clearText 11 = .ok (.iconst 0, 1) := by decide +kernel
theorem d_10_clearText_12 : decode cX10_clearText 12 = .ok (.putfield 120, 3) := by decide +kernel
theorem d_10_clearText_15 : decode cX10_clearText 15 = .ok (.iload_n 1, 1) := by decide +kernel
theorem d_10_clearText_16 : decode cX10_clearText 16 = .ok (.ireturn, 1) := by decide +kernel
theorem d_10_isHere_0 : decode cX10_isHere 0 = .ok (.aload_n 0, 1) := by decide +kernel
theorem d_10_isHere_1 : decode cX10_isHere 1 = .ok (.getfield 123, 3) := by decide +kernel
theorem d_10_isHere_4 : decode cX10_isHere 4 = .ok (.aload_n 0, 1) := by decide +kernel
theorem d_10_isHere_5 : decode cX10_isHere 5 = .ok (.getfield 120, 3) := by decide +kernel
theorem d_10_isHere_8 : decode cX10_isHere 8 = .ok (.if_icmp .ge 27, 3) := by decide +kernel
theorem d_10_isHere_11 : decode cX10_isHere 11 = .ok (.aload_n 0, 1) := by decide +kernel
theorem d_10_isHere_12 : decode cX10_isHere 12 = .ok (.getfield 25, 3) := by decide +kernel
theorem d_10_isHere_15 : decode cX10_isHere 15 = .ok (.aload_n 0, 1) := by decide +kernel
theorem d_10_isHere_16 : decode cX10_isHere 16 = .ok (.getfield 123, 3) := by decide +kernel
theorem d_10_isHere_19 : decode cX10_isHere 19 = .ok (.iaload, 1) := by decide +kernel
theorem d_10_isHere_20 : decode cX10_isHere 20 = .ok (.i2l, 1) := by decide +kernel
theorem d_10_isHere_21 : decode cX10_isHere 21 = .ok (.iload_n 1, 1) := by decide +kernel
theorem d_10_isHere_22 : decode cX10_isHere 22 = .ok (.i2l, 1) := by decide +kernel
theorem d_10_isHere_23 : decode cX10_isHere 23 = .ok (.iload_n 2, 1) := by decide +kernel
theorem d_10_isHere_24 : decode cX10_isHere 24 = .ok (.i2l, 1) := by decide +kernel
theorem d_10_isHere_25 : decode cX10_isHere 25 = .ok (.invokestatic 47, 3) := by decide +kernel
theorem d_10_isHere_28 : decode cX10_isHere 28 = .ok (.ifCond .eq 7, 3) := by decide +kernel
theorem d_10_isHere_31 : decode cX10_isHere 31 = .ok (.iconst 1, 1) := by decide +kernel
theorem d_10_isHere_32 : decode cX10_isHere 32 = .ok (.goto 4, 3) := by decide +kernel
theorem d_10_isHere_35 : decode cX10_isHere 35 = .ok (.iconst 0, 1) := by decide +kernel
theorem d_10_isHere_36 : decode cX10_isHere 36 = .ok (.ireturn, 1) := by decide +kernel
theorem d_10_takesOne_0 : decode cX10_takesOne 0 = .ok (.aload_n 0, 1) := by decide +kernel
theorem d_10_takesOne_1 : decode cX10_takesOne 1 = .ok (.iload_n 1, 1) := by decide +kernel
theorem d_10_takesOne_2 : decode cX10_takesOne 2 = .ok (.iload_n 1, 1) := by decide +kernel
theorem d_10_takesOne_3 : decode cX10_takesOne 3 = .ok (.invokevirtual 126, 3) := by decide +kernel
theorem d_10_takesOne_6 : decode cX10_takesOne 6 = .ok (.istore_n 2, 1) := by decide +kernel
theorem d_10_takesOne_7 : decode cX10_takesOne 7 = .ok (.aload_n 0, 1) := by decide +kernel
theorem d_10_takesOne_8 : decode cX10_takesOne 8 = .ok (.dup, 1) := by decide +kernel
theorem d_10_takesOne_9 : decode cX10_takesOne 9 = .ok (.getfield 123, 3) := by decide +kernel
theorem d_10_takesOne_12 : decode cX10_takesOne 12 = .ok (.iload_n 2, 1) := by decide +kernel
theorem d_10_takesOne_13 : decode cX10_takesOne 13 = .ok (.ifCond .eq 7, 3) := by decide +kernel
theorem d_10_takesOne_16 : decode cX10_takesOne 16 = .ok (.iconst 1, 1) := by decide +kernel
theorem d_10_takesOne_17 : decode cX10_takesOne 17 = .ok (.goto 4, 3) := by decide +kernel
theorem d_10_takesOne_20 : decode cX10_takesOne 20 = .ok (.iconst 0, 1) := by decide +kernel
theorem d_10_takesOne_21 : decode cX10_takesOne 21 = .ok (.iadd, 1) := by decide +kernel
theorem d_10_takesOne_22 : decode cX10_takesOne 22 = .ok (.putfield 123, 3) := by decide +kernel
theorem d_10_takesOne_25 : decode cX10_takesOne 25 = .ok (.iload_n 2, 1) := by decide +kernel
theorem d_10_takesOne_26 : decode cX10_takesOne 26 = .ok (.ireturn, 1) := by decide +kernel
theorem d_10_readsLetters_0 : decode cX10_readsLetters 0 = .ok (.aload_n 1, 1) := by decide +kernel
theorem d_10_readsLetters_1 : decode cX10_readsLetters 1 = .ok (.iconst 0, 1) := by decide +kernel
theorem d_10_readsLetters_2 : decode cX10_readsLetters 2 = .ok (.iconst 0, 1) := by decide +kernel
theorem d_10_readsLetters_3 : decode cX10_readsLetters 3 = .ok (.iastore, 1) := by decide +kernel
theorem d_10_readsLetters_4 : decode cX10_readsLetters 4 = .ok (.aload_n 1, 1) := by decide +kernel
theorem d_10_readsLetters_5 : decode cX10_readsLetters 5 = .ok (.iconst 0, 1) := by decide +kernel
theorem d_10_readsLetters_6 : decode cX10_readsLetters 6 = .ok (.iaload, 1) := by decide +kernel
theorem d_10_readsLetters_7 : decode cX10_readsLetters 7 = .ok (.iload_n 2, 1) := by decide +kernel
theorem d_10_readsLetters_8 : decode cX10_readsLetters 8 = .ok (.if_icmp .ge 51, 3) := by decide +kernel
theorem d_10_readsLetters_11 : decode cX10_readsLetters 11 = .ok (.aload_n 0, 1) := by decide +kernel
theorem d_10_readsLetters_12 : decode cX10_readsLetters 12 = .ok (.bipush 97, 2) := by decide +kernel
theorem d_10_readsLetters_14 : decode cX10_readsLetters 14 = .ok (.bipush 122, 2) := by decide +kernel
theorem d_10_readsLetters_16 : decode cX10_readsLetters 16 = .ok (.invokevirtual 126, 3) := by decide +kernel
theorem d_10_readsLetters_19 : decode cX10_readsLetters 19 = .ok (.ifCond .eq 40, 3) := by decide +kernel
theorem d_10_readsLetters_22 : decode cX10_readsLetters 22 = .ok (.aload_n 1, 1) := by decide +kernel
theorem d_10_readsLetters_23 : decode cX10_readsLetters 23 = .ok (.iconst 0, 1) := by decide +kernel
theorem d_10_readsLetters_24 : decode cX10_readsLetters 24 = .ok (.dup2, 1) := by decide +kernel
theorem d_10_readsLetters_25 : decode cX10_readsLetters 25 = .ok (.iaload, 1) := by decide +kernel
theorem d_10_readsLetters_26 : decode cX10_readsLetters 26 = .ok (.iconst 1, 1) := by decide +kernel
theorem d_10_readsLetters_27 : decode cX10_readsLetters 27 = .ok (.iadd, 1) := by decide +kernel
theorem d_10_readsLetters_28 : decode cX10_readsLetters 28 = .ok (.iastore, 1) := by decide +kernel
theorem d_10_readsLetters_29 : decode cX10_readsLetters 29 = .ok (.aload_n 1, 1) := by decide +kernel
theorem d_10_readsLetters_30 : decode cX10_readsLetters 30 = .ok (.aload_n 1, 1) := by decide +kernel
theorem d_10_readsLetters_31 : decode cX10_readsLetters 31 = .ok (.iconst 0, 1) := by decide +kernel
theorem d_10_readsLetters_32 : decode cX10_readsLetters 32 = .ok (.iaload, 1) := by decide +kernel
theorem d_10_readsLetters_33 : decode cX10_readsLetters 33 = .ok (.aload_n 0, 1) := by decide +kernel
theorem d_10_readsLetters_34 : decode cX10_readsLetters 34 = .ok (.getfield 25, 3) := by decide +kernel
theorem d_10_readsLetters_37 : decode cX10_readsLetters 37 = .ok (.aload_n 0, 1) := by decide +kernel
theorem d_10_readsLetters_38 : decode cX10_readsLetters 38 = .ok (.getfield 123, 3) := by decide +kernel
theorem d_10_readsLetters_41 : decode cX10_readsLetters 41 = .ok (.iaload, 1) := by decide +kernel
theorem d_10_readsLetters_42 : decode cX10_readsLetters 42 = .ok (.bipush 97, 2) := by decide +kernel
theorem d_10_readsLetters_44 : decode cX10_readsLetters 44 = .ok (.isub, 1) := by decide +kernel
theorem d_10_readsLetters_45 : decode cX10_readsLetters 45 = .ok (.iastore, 1) := by decide +kernel
theorem d_10_readsLetters_46 : decode cX10_readsLetters 46 = .ok (.aload_n 0, 1) := by decide +kernel
theorem d_10_readsLetters_47 : decode cX10_readsLetters 47 = .ok (.dup, 1) := by decide +kernel
theorem d_10_readsLetters_48 : decode cX10_readsLetters 48 = .ok (.getfield 123, 3) := by decide +kernel
theorem d_10_readsLetters_51 : decode cX10_readsLetters 51 = .ok (.iconst 1, 1) := by decide +kernel
theorem d_10_readsLetters_52 : decode cX10_readsLetters 52 = .ok (.iadd, 1) := by decide +kernel
theorem d_10_readsLetters_53 : decode cX10_readsLetters 53 = .ok (.putfield 123, 3) := by decide +kernel
theorem d_10_readsLetters_56 : decode cX10_readsLetters 56 = .ok (.goto (-52), 3) := by decide +kernel
theorem d_10_readsLetters_59 : decode cX10_readsLetters 59 = .ok (.aload_n 1, 1) := by decide +kernel
theorem d_10_readsLetters_60 : decode cX10_readsLetters 60 = .ok (.iconst 0, 1) := by decide +kernel
theorem d_10_readsLetters_61 : decode cX10_readsLetters 61 = .ok (.iaload, 1) := by decide +kernel
theorem d_10_readsLetters_62 : decode cX10_readsLetters 62 = .ok (.ireturn, 1) := by decide +kernel
theorem d_10_readsOrder_0 : decode cX10_readsOrder 0 = .ok (.aload_n 0, 1) := by decide +kernel
theorem d_10_readsOrder_1 : decode cX10_readsOrder 1 = .ok (.bipush 42, 2) := by decide +kernel
theorem d_10_readsOrder_3 : decode cX10_readsOrder 3 = .ok (.invokevirtual 130, 3) := by decide +kernel
theorem d_10_readsOrder_6 : decode cX10_readsOrder 6 = .ok (.ifCond .eq 76, 3) := by decide +kernel
theorem d_10_readsOrder_9 : decode cX10_readsOrder 9 = .ok (.aload_n 0, 1) := by decide +kernel
theorem d_10_readsOrder_10 : decode cX10_readsOrder 10 = .ok (.iconst 2, 1) := by decide +kernel
theorem d_10_readsOrder_11 : decode cX10_readsOrder 11 = .ok (.putfield 133, 3) := by decide +kernel
theorem d_10_readsOrder_14 : decode cX10_readsOrder 14 = .ok (.aload_n 0, 1) := by decide +kernel
theorem d_10_readsOrder_15 : decode cX10_readsOrder 15 = .ok (.aload_n 0, 1) := by decide +kernel
theorem d_10_readsOrder_16 : decode cX10_readsOrder 16 = .ok (.bipush 33, 2) := by decide +kernel
theorem d_10_readsOrder_18 : decode cX10_readsOrder 18 = .ok (.invokevirtual 130, 3) := by decide +kernel
theorem d_10_readsOrder_21 : decode cX10_readsOrder 21 = .ok (.ifCond .eq 7, 3) := by decide +kernel
theorem d_10_readsOrder_24 : decode cX10_readsOrder 24 = .ok (.iconst 1, 1) := by decide +kernel
theorem d_10_readsOrder_25 : decode cX10_readsOrder 25 = .ok (.goto 17, 3) := by decide +kernel
theorem d_10_readsOrder_28 : decode cX10_readsOrder 28 = .ok (.aload_n 0, 1) := by decide +kernel
theorem d_10_readsOrder_29 : decode cX10_readsOrder 29 = .ok (.bipush 63, 2) := by decide +kernel
theorem d_10_readsOrder_31 : decode cX10_readsOrder 31 = .ok (.invokevirtual 130, 3) := by decide +kernel
theorem d_10_readsOrder_34 : decode cX10_readsOrder 34 = .ok (.ifCond .eq 7, 3) := by decide +kernel
theorem d_10_readsOrder_37 : decode cX10_readsOrder 37 = .ok (.iconst 2, 1) := by decide +kernel
theorem d_10_readsOrder_38 : decode cX10_readsOrder 38 = .ok (.goto 4, 3) := by decide +kernel
theorem d_10_readsOrder_41 : decode cX10_readsOrder 41 = .ok (.iconst 0, 1) := by decide +kernel
theorem d_10_readsOrder_42 : decode cX10_readsOrder 42 = .ok (.putfield 136, 3) := by decide +kernel
theorem d_10_readsOrder_45 : decode cX10_readsOrder 45 = .ok (.aload_n 0, 1) := by decide +kernel
theorem d_10_readsOrder_46 : decode cX10_readsOrder 46 = .ok (.aload_n 0, 1) := by decide +kernel
theorem d_10_readsOrder_47 : decode cX10_readsOrder 47 = .ok (.getfield 28, 3) := by decide +kernel
theorem d_10_readsOrder_50 : decode cX10_readsOrder 50 = .ok (.iconst 4, 1) := by decide +kernel
theorem d_10_readsOrder_51 : decode cX10_readsOrder 51 = .ok (.invokevirtual 139, 3) := by decide +kernel
theorem d_10_readsOrder_54 : decode cX10_readsOrder 54 = .ok (.istore_n 1, 1) := by decide +kernel
theorem d_10_readsOrder_55 : decode cX10_readsOrder 55 = .ok (.aload_n 0, 1) := by decide +kernel
theorem d_10_readsOrder_56 : decode cX10_readsOrder 56 = .ok (.bipush 62, 2) := by decide +kernel
theorem d_10_readsOrder_58 : decode cX10_readsOrder 58 = .ok (.invokevirtual 130, 3) := by decide +kernel
theorem d_10_readsOrder_61 : decode cX10_readsOrder 61 = .ok (.ifCond .eq 19, 3) := by decide +kernel
theorem d_10_readsOrder_64 : decode cX10_readsOrder 64 = .ok (.aload_n 0, 1) := by decide +kernel
theorem d_10_readsOrder_65 : decode cX10_readsOrder 65 = .ok (.aload_n 0, 1) := by decide +kernel
theorem d_10_readsOrder_66 : decode cX10_readsOrder 66 = .ok (.getfield 31, 3) := by decide +kernel
theorem d_10_readsOrder_69 : decode cX10_readsOrder 69 = .ok (.iconst 4, 1) := by decide +kernel
theorem d_10_readsOrder_70 : decode cX10_readsOrder 70 = .ok (.invokevirtual 139, 3) := by decide +kernel
theorem d_10_readsOrder_73 : decode cX10_readsOrder 73 = .ok (.ifCond .le 7, 3) := by decide +kernel
theorem d_10_readsOrder_76 : decode cX10_readsOrder 76 = .ok (.iconst 1, 1) := by decide +kernel
theorem d_10_readsOrder_77 : decode cX10_readsOrder 77 = .ok (.goto 4, 3) := by decide +kernel
theorem d_10_readsOrder_80 : decode cX10_readsOrder 80 = .ok (.iconst 0, 1) := by decide +kernel
theorem d_10_readsOrder_81 : decode cX10_readsOrder 81 = .ok (.ireturn, 1) := by decide +kernel
theorem d_10_readsOrder_82 : decode cX10_readsOrder 82 = .ok (.aload_n 0, 1) := by decide +kernel
theorem d_10_readsOrder_83 : decode cX10_readsOrder 83 = .ok (.iconst 0, 1) := by decide +kernel
theorem d_10_readsOrder_84 : decode cX10_readsOrder 84 = .ok (.putfield 133, 3) := by decide +kernel
theorem d_10_readsOrder_87 : decode cX10_readsOrder 87 = .ok (.aload_n 0, 1) := by decide +kernel
theorem d_10_readsOrder_88 : decode cX10_readsOrder 88 = .ok (.aload_n 0, 1) := by decide +kernel
theorem d_10_readsOrder_89 : decode cX10_readsOrder 89 = .ok (.getfield 28, 3) := by decide +kernel
theorem d_10_readsOrder_92 : decode cX10_readsOrder 92 = .ok (.bipush 12, 2) := by decide +kernel
theorem d_10_readsOrder_94 : decode cX10_readsOrder 94 = .ok (.invokevirtual 139, 3) := by decide +kernel
theorem d_10_readsOrder_97 : decode cX10_readsOrder 97 = .ok (.ifCond .ne 5, 3) := by decide +kernel
theorem d_10_readsOrder_100 : decode cX10_readsOrder 100 = .ok (.iconst 0, 1) := by decide +kernel
theorem d_10_readsOrder_101 : decode cX10_readsOrder 101 = .ok (.ireturn, 1) := by decide +kernel
theorem d_10_readsOrder_102 : decode cX10_readsOrder 102 = .ok (.aload_n 0, 1) := by decide +kernel
theorem d_10_readsOrder_103 : decode cX10_readsOrder 103 = .ok (.bipush 61, 2) := by decide +kernel
theorem d_10_readsOrder_105 : decode cX10_readsOrder 105 = .ok (.invokevirtual 130, 3) := by decide +kernel
theorem d_10_readsOrder_108 : decode cX10_readsOrder 108 = .ok (.ifCond .ne 5, 3) := by decide +kernel
theorem d_10_readsOrder_111 : decode cX10_readsOrder 111 = .ok (.iconst 1, 1) := by decide +kernel
theorem d_10_readsOrder_112 : decode cX10_readsOrder 112 = .ok (.ireturn, 1) := by decide +kernel
theorem d_10_readsOrder_113 : decode cX10_readsOrder 113 = .ok (.aload_n 0, 1) := by decide +kernel
theorem d_10_readsOrder_114 : decode cX10_readsOrder 114 = .ok (.iconst 1, 1) := by decide +kernel
theorem d_10_readsOrder_115 : decode cX10_readsOrder 115 = .ok (.putfield 133, 3) := by decide +kernel
theorem d_10_readsOrder_118 : decode cX10_readsOrder 118 = .ok (.aload_n 0, 1) := by decide +kernel
theorem d_10_readsOrder_119 : decode cX10_readsOrder 119 = .ok (.aload_n 0, 1) := by decide +kernel
theorem d_10_readsOrder_120 : decode cX10_readsOrder 120 = .ok (.getfield 31, 3) := by decide +kernel
theorem d_10_readsOrder_123 : decode cX10_readsOrder 123 = .ok (.bipush 12, 2) := by decide +kernel
theorem d_10_readsOrder_125 : decode cX10_readsOrder 125 = .ok (.invokevirtual 139, 3) := by decide +kernel
theorem d_10_readsOrder_128 : decode cX10_readsOrder 128 = .ok (.ifCond .le 7, 3) := by decide +kernel
theorem d_10_readsOrder_131 : decode cX10_readsOrder 131 = .ok (.iconst 1, 1) := by decide +kernel
theorem d_10_readsOrder_132 : decode cX10_readsOrder 132 = .ok (.goto 4, 3) := by decide +kernel
theorem d_10_readsOrder_135 : decode cX10_readsOrder 135 = .ok (.iconst 0, 1) := by decide +kernel
theorem d_10_readsOrder_136 : decode cX10_readsOrder 136 = .ok (.ireturn, 1) := by decide +kernel
theorem d_10_errorOfText_0 : decode cX10_errorOfText 0 = .ok (.aload_n 0, 1) := by decide +kernel
theorem d_10_errorOfText_1 : decode cX10_errorOfText 1 = .ok (.iconst 0, 1) := by decide +kernel
theorem d_10_errorOfText_2 : decode cX10_errorOfText 2 = .ok (.putfield 123, 3) := by decide +kernel
theorem d_10_errorOfText_5 : decode cX10_errorOfText 5 = .ok (.iconst 1, 1) := by decide +kernel
theorem d_10_errorOfText_6 : decode cX10_errorOfText 6 = .ok (.istore_n 1, 1) := by decide +kernel
theorem d_10_errorOfText_7 : decode cX10_errorOfText 7 = .ok (.iload_n 1, 1) := by decide +kernel
theorem d_10_errorOfText_8 : decode cX10_errorOfText 8 = .ok (.ifCond .eq 25, 3) := by decide +kernel
theorem d_10_errorOfText_11 : decode cX10_errorOfText 11 = .ok (.aload_n 0, 1) := by decide +kernel
theorem d_10_errorOfText_12 : decode cX10_errorOfText 12 = .ok (.invokevirtual 142, 3) := by decide +kernel
theorem d_10_errorOfText_15 : decode cX10_errorOfText 15 = .ok (.ifCond .ne 8, 3) := by decide +kernel
theorem d_10_errorOfText_18 : decode cX10_errorOfText 18 = .ok (.aload_n 0, 1) := by decide +kernel
theorem d_10_errorOfText_19 : decode cX10_errorOfText 19 = .ok (.getfield 123, 3) := by decide +kernel
theorem d_10_errorOfText_22 : decode cX10_errorOfText 22 = .ok (.ireturn, 1) := by decide +kernel
theorem d_10_errorOfText_23 : decode cX10_errorOfText 23 = .ok (.aload_n 0, 1) := by decide +kernel
theorem d_10_errorOfText_24 : decode cX10_errorOfText 24 = .ok (.bipush 59, 2) := by decide +kernel
theorem d_10_errorOfText_26 : decode cX10_errorOfText 26 = .ok (.invokevirtual 130, 3) := by decide +kernel
theorem d_10_errorOfText_29 : decode cX10_errorOfText 29 = .ok (.istore_n 1, 1) := by decide +kernel
theorem d_10_errorOfText_30 : decode cX10_errorOfText 30 = .ok (.goto (-23), 3) := by decide +kernel
theorem d_10_errorOfText_33 : decode cX10_errorOfText 33 = .ok (.aload_n 0, 1) := by decide +kernel
theorem d_10_errorOfText_34 : decode cX10_errorOfText 34 = .ok (.getfield 123, 3) := by decide +kernel
theorem d_10_errorOfText_37 : decode cX10_errorOfText 37 = .ok (.aload_n 0, 1) := by decide +kernel
theorem d_10_errorOfText_38 : decode cX10_errorOfText 38 = .ok (.getfield 120, 3) := by decide +kernel
theorem d_10_errorOfText_41 : decode cX10_errorOfText 41 = .ok (.if_icmp .ne 7, 3) := by decide +kernel
theorem d_10_errorOfText_44 : decode cX10_errorOfText 44 = .ok (.iconst (-1), 1) := by decide +kernel
theorem d_10_errorOfText_45 : decode cX10_errorOfText 45 = .ok (.goto 7, 3) := by decide +kernel
theorem d_10_errorOfText_48 : decode cX10_errorOfText 48 = .ok (.aload_n 0, 1) := by decide +kernel
theorem d_10_errorOfText_49 : decode cX10_errorOfText 49 = .ok (.getfield 123, 3) := by decide +kernel
theorem d_10_errorOfText_52 : decode cX10_errorOfText 52 = .ok (.ireturn, 1) := by decide +kernel
theorem d_10_textError_0 : decode cX10_textError 0 = .ok (.aload_n 0, 1) := by decide +kernel
theorem d_10_textError_1 : decode cX10_textError 1 = .ok (.aload_n 0, 1) := by decide +kernel
theorem d_10_textError_2 : decode cX10_textError 2 = .ok (.invokevirtual 146, 3) := by decide +kernel
theorem d_10_textError_5 : decode cX10_textError 5 = .ok (.invokevirtual 149, 3) := by decide +kernel
theorem d_10_textError_8 : decode cX10_textError 8 = .ok (.ireturn, 1) := by decide +kernel
theorem d_10_isInBook_0 : decode cX10_isInBook 0 = .ok (.iconst 0, 1) := by decide +kernel
theorem d_10_isInBook_1 : decode cX10_isInBook 1 = .ok (.istore_n 1, 1) := by decide +kernel
theorem d_10_isInBook_2 : decode cX10_isInBook 2 = .ok (.iconst 0, 1) := by decide +kernel
theorem d_10_isInBook_3 : decode cX10_isInBook 3 = .ok (.istore_n 2, 1) := by decide +kernel
theorem d_10_isInBook_4 : decode cX10_isInBook 4 = .ok (.iload_n 2, 1) := by decide +kernel
theorem d_10_isInBook_5 : decode cX10_isInBook 5 = .ok (.aload_n 0, 1) := by decide +kernel
theorem d_10_isInBook_6 : decode cX10_isInBook 6 = .ok (.getfield 7, 3) := by decide +kernel
theorem d_10_isInBook_9 : decode cX10_isInBook 9 = .ok (.iconst 2, 1) := by decide +kernel
theorem d_10_isInBook_10 : decode cX10_isInBook 10 = .ok (.iaload, 1) := by decide +kernel
theorem d_10_isInBook_11 : decode cX10_isInBook 11 = .ok (.if_icmp .ge 42, 3) := by decide +kernel
theorem d_10_isInBook_14 : decode cX10_isInBook 14 = .ok (.iload_n 1, 1) := by decide +kernel
theorem d_10_isInBook_15 : decode cX10_isInBook 15 = .ok (.ifCond .ne 26, 3) := by decide +kernel
theorem d_10_isInBook_18 : decode cX10_isInBook 18 = .ok (.aload_n 0, 1) := by decide +kernel
theorem d_10_isInBook_19 : decode cX10_isInBook 19 = .ok (.getfield 28, 3) := by decide +kernel
theorem d_10_isInBook_22 : decode cX10_isInBook 22 = .ok (.iconst 0, 1) := by decide +kernel
theorem d_10_isInBook_23 : decode cX10_isInBook 23 = .ok (.aload_n 0, 1) := by decide +kernel
theorem d_10_isInBook_24 : decode cX10_isInBook 24 = .ok (.getfield 7, 3) := by decide +kernel
theorem d_10_isInBook_27 : decode cX10_isInBook 27 = .ok (.sipush 766, 3) := by decide +kernel
theorem d_10_isInBook_30 : decode cX10_isInBook 30 = .ok (.bipush 17, 2) := by decide +kernel
theorem d_10_isInBook_32 : decode cX10_isInBook 32 = .ok (.iload_n 2, 1) := by decide +kernel
theorem d_10_isInBook_33 : decode cX10_isInBook 33 = .ok (.imul, 1) := by decide +kernel
theorem d_10_isInBook_34 : decode cX10_isInBook 34 = .ok (.iadd, 1) := by decide +kernel
theorem d_10_isInBook_35 : decode cX10_isInBook 35 = .ok (.invokestatic 59, 3) := by decide +kernel
theorem d_10_isInBook_38 : decode cX10_isInBook 38 = .ok (.ifCond .eq 7, 3) := by decide +kernel
theorem d_10_isInBook_41 : decode cX10_isInBook 41 = .ok (.iconst 1, 1) := by decide +kernel
theorem d_10_isInBook_42 : decode cX10_isInBook 42 = .ok (.goto 4, 3) := by decide +kernel
theorem d_10_isInBook_45 : decode cX10_isInBook 45 = .ok (.iconst 0, 1) := by decide +kernel
theorem d_10_isInBook_46 : decode cX10_isInBook 46 = .ok (.istore_n 1, 1) := by decide +kernel
theorem d_10_isInBook_47 : decode cX10_isInBook 47 = .ok (.iinc 2 1, 3) := by decide +kernel
theorem d_10_isInBook_50 : decode cX10_isInBook 50 = .ok (.goto (-46), 3) := by decide +kernel
theorem d_10_isInBook_53 : decode cX10_isInBook 53 = .ok (.iload_n 1, 1) := by decide +kernel
theorem d_10_isInBook_54 : decode cX10_isInBook 54 = .ok (.ireturn, 1) := by decide +kernel
theorem d_10_does_0 : decode cX10_does 0 = .ok (.aload_n 0, 1) := by decide +kernel
theorem d_10_does_1 : decode cX10_does 1 = .ok (.getfield 133, 3) := by decide +kernel
theorem d_10_does_4 : decode cX10_does 4 = .ok (.ifCond .ne 60, 3) := by decide +kernel
theorem d_10_does_7 : decode cX10_does 7 = .ok (.aload_n 0, 1) := by decide +kernel
theorem d_10_does_8 : decode cX10_does 8 = .ok (.invokevirtual 152, 3) := by decide +kernel
theorem d_10_does_11 : decode cX10_does 11 = .ok (.ifCond .ne 14, 3) := by decide +kernel
theorem d_10_does_14 : decode cX10_does 14 = .ok (.aload_n 0, 1) := by decide +kernel
theorem d_10_does_15 : decode cX10_does 15 = .ok (.getfield 7, 3) := by decide +kernel
theorem d_10_does_18 : decode cX10_does 18 = .ok (.iconst 2, 1) := by decide +kernel
theorem d_10_does_19 : decode cX10_does 19 = .ok (.iaload, 1) := by decide +kernel
theorem d_10_does_20 : decode cX10_does 20 = .ok (.bipush 20, 2) := by decide +kernel
theorem d_10_does_22 : decode cX10_does 22 = .ok (.if_icmp .ne 5, 3) := by decide +kernel
theorem d_10_does_25 : decode cX10_does 25 = .ok (.iconst 0, 1) := by decide +kernel
theorem d_10_does_26 : decode cX10_does 26 = .ok (.ireturn, 1) := by decide +kernel
theorem d_10_does_27 : decode cX10_does 27 = .ok (.aload_n 0, 1) := by decide +kernel
theorem d_10_does_28 : decode cX10_does 28 = .ok (.getfield 28, 3) := by decide +kernel
theorem d_10_does_31 : decode cX10_does 31 = .ok (.iconst 0, 1) := by decide +kernel
theorem d_10_does_32 : decode cX10_does 32 = .ok (.aload_n 0, 1) := by decide +kernel
theorem d_10_does_33 : decode cX10_does 33 = .ok (.getfield 7, 3) := by decide +kernel
theorem d_10_does_36 : decode cX10_does 36 = .ok (.sipush 766, 3) := by decide +kernel
theorem d_10_does_39 : decode cX10_does 39 = .ok (.bipush 17, 2) := by decide +kernel
theorem d_10_does_41 : decode cX10_does 41 = .ok (.aload_n 0, 1) := by decide +kernel
theorem d_10_does_42 : decode cX10_does 42 = .ok (.getfield 7, 3) := by decide +kernel
theorem d_10_does_45 : decode cX10_does 45 = .ok (.iconst 2, 1) := by decide +kernel
theorem d_10_does_46 : decode cX10_does 46 = .ok (.iaload, 1) := by decide +kernel
theorem d_10_does_47 : decode cX10_does 47 = .ok (.imul, 1) := by decide +kernel
theorem d_10_does_48 : decode cX10_does 48 = .ok (.iadd, 1) := by decide +kernel
theorem d_10_does_49 : decode cX10_does 49 = .ok (.invokestatic 70, 3) := by decide +kernel
theorem d_10_does_52 : decode cX10_does 52 = .ok (.aload_n 0, 1) := by decide +kernel
theorem d_10_does_53 : decode cX10_does 53 = .ok (.getfield 7, 3) := by decide +kernel
theorem d_10_does_56 : decode cX10_does 56 = .ok (.iconst 2, 1) := by decide +kernel
theorem d_10_does_57 : decode cX10_does 57 = .ok (.dup2, 1) := by decide +kernel
theorem d_10_does_58 : decode cX10_does 58 = .ok (.iaload, 1) := by decide +kernel
theorem d_10_does_59 : decode cX10_does 59 = .ok (.iconst 1, 1) := by decide +kernel
theorem d_10_does_60 : decode cX10_does 60 = .ok (.iadd, 1) := by decide +kernel
theorem d_10_does_61 : decode cX10_does 61 = .ok (.iastore, 1) := by decide +kernel
theorem d_10_does_62 : decode cX10_does 62 = .ok (.iconst 1, 1) := by decide +kernel
theorem d_10_does_63 : decode cX10_does 63 = .ok (.ireturn, 1) := by decide +kernel
theorem d_10_does_64 : decode cX10_does 64 = .ok (.aload_n 0, 1) := by decide +kernel
theorem d_10_does_65 : decode cX10_does 65 = .ok (.getfield 133, 3) := by decide +kernel
theorem d_10_does_68 : decode cX10_does 68 = .ok (.iconst 1, 1) := by decide +kernel
theorem d_10_does_69 : decode cX10_does 69 = .ok (.if_icmp .ne 104, 3) := by decide +kernel
theorem d_10_does_72 : decode cX10_does 72 = .ok (.aload_n 0, 1) := by decide +kernel
theorem d_10_does_73 : decode cX10_does 73 = .ok (.aload_n 0, 1) := by decide +kernel
theorem d_10_does_74 : decode cX10_does 74 = .ok (.getfield 28, 3) := by decide +kernel
theorem d_10_does_77 : decode cX10_does 77 = .ok (.iconst 0, 1) := by decide +kernel
theorem d_10_does_78 : decode cX10_does 78 = .ok (.invokevirtual 66, 3) := by decide +kernel
theorem d_10_does_81 : decode cX10_does 81 = .ok (.istore_n 1, 1) := by decide +kernel
theorem d_10_does_82 : decode cX10_does 82 = .ok (.iload_n 1, 1) := by decide +kernel
theorem d_10_does_83 : decode cX10_does 83 = .ok (.iconst (-1), 1) := by decide +kernel
theorem d_10_does_84 : decode cX10_does 84 = .ok (.if_icmp .ne 16, 3) := by decide +kernel
theorem d_10_does_87 : decode cX10_does 87 = .ok (.aload_n 0, 1) := by decide +kernel
theorem d_10_does_88 : decode cX10_does 88 = .ok (.getfield 7, 3) := by decide +kernel
theorem d_10_does_91 : decode cX10_does 91 = .ok (.iconst 1, 1) := by decide +kernel
theorem d_10_does_92 : decode cX10_does 92 = .ok (.iaload, 1) := by decide +kernel
theorem d_10_does_93 : decode cX10_does 93 = .ok (.bipush 10, 2) := by decide +kernel
theorem d_10_does_95 : decode cX10_does 95 = .ok (.if_icmp .ne 5, 3) := by decide +kernel
theorem d_10_does_98 : decode cX10_does 98 = .ok (.iconst 0, 1) := by decide +kernel
theorem d_10_does_99 : decode cX10_does 99 = .ok (.ireturn, 1) := by decide +kernel
theorem d_10_does_100 : decode cX10_does 100 = .ok (.sipush 426, 3) := by decide +kernel
theorem d_10_does_103 : decode cX10_does 103 = .ok (.bipush 34, 2) := by decide +kernel
theorem d_10_does_105 : decode cX10_does 105 = .ok (.iload_n 1, 1) := by decide +kernel
theorem d_10_does_106 : decode cX10_does 106 = .ok (.iconst (-1), 1) := by decide +kernel
theorem d_10_does_107 : decode cX10_does 107 = .ok (.if_icmp .ne 12, 3) := by decide +kernel
theorem d_10_does_110 : decode cX10_does 110 = .ok (.aload_n 0, 1) := by decide +kernel
theorem d_10_does_111 : decode cX10_does 111 = .ok (.getfield 7, 3) := by decide +kernel
theorem d_10_does_114 : decode cX10_does 114 = .ok (.iconst 1, 1) := by decide +kernel
theorem d_10_does_115 : decode cX10_does 115 = .ok (.iaload, 1) := by decide +kernel
theorem d_10_does_116 : decode cX10_does 116 = .ok (.goto 4, 3) := by decide +kernel
theorem d_10_does_119 : decode cX10_does 119 = .ok (.iload_n 1, 1) := by decide +kernel
theorem d_10_does_120 : decode cX10_does 120 = .ok (.imul, 1) := by decide +kernel
theorem d_10_does_121 : decode cX10_does 121 = .ok (.iadd, 1) := by decide +kernel
theorem d_10_does_122 : decode cX10_does 122 = .ok (.istore_n 2, 1) := by decide +kernel
theorem d_10_does_123 : decode cX10_does 123 = .ok (.aload_n 0, 1) := by decide +kernel
theorem d_10_does_124 : decode cX10_does 124 = .ok (.getfield 28, 3) := by decide +kernel
theorem d_10_does_127 : decode cX10_does 127 = .ok (.iconst 0, 1) := by decide +kernel
theorem d_10_does_128 : decode cX10_does 128 = .ok (.aload_n 0, 1) := by decide +kernel
theorem d_10_does_129 : decode cX10_does 129 = .ok (.getfield 7, 3) := by decide +kernel
theorem d_10_does_132 : decode cX10_does 132 = .ok (.iload_n 2, 1) := by decide +kernel
theorem d_10_does_133 : decode cX10_does 133 = .ok (.invokestatic 70, 3) := by decide +kernel
theorem d_10_does_136 : decode cX10_does 136 = .ok (.aload_n 0, 1) := by decide +kernel
theorem d_10_does_137 : decode cX10_does 137 = .ok (.getfield 31, 3) := by decide +kernel
theorem d_10_does_140 : decode cX10_does 140 = .ok (.iconst 0, 1) := by decide +kernel
theorem d_10_does_141 : decode cX10_does 141 = .ok (.aload_n 0, 1) := by decide +kernel
theorem d_10_does_142 : decode cX10_does 142 = .ok (.getfield 7, 3) := by decide +kernel
theorem d_10_does_145 : decode cX10_does 145 = .ok (.iload_n 2, 1) := by decide +kernel
theorem d_10_does_146 : decode cX10_does 146 = .ok (.bipush 17, 2) := by decide +kernel
theorem d_10_does_148 : decode cX10_does 148 = .ok (.iadd, 1) := by decide +kernel
theorem d_10_does_149 : decode cX10_does 149 = .ok (.invokestatic 70, 3) := by decide +kernel
theorem d_10_does_152 : decode cX10_does 152 = .ok (.aload_n 0, 1) := by decide +kernel
theorem d_10_does_153 : decode cX10_does 153 = .ok (.getfield 7, 3) := by decide +kernel
theorem d_10_does_156 : decode cX10_does 156 = .ok (.iconst 1, 1) := by decide +kernel
theorem d_10_does_157 : decode cX10_does 157 = .ok (.dup2, 1) := by decide +kernel
theorem d_10_does_158 : decode cX10_does 158 = .ok (.iaload, 1) := by decide +kernel
theorem d_10_does_159 : decode cX10_does 159 = .ok (.iload_n 1, 1) := by decide +kernel
theorem d_10_does_160 : decode cX10_does 160 = .ok (.iconst (-1), 1) := by decide +kernel
theorem d_10_does_161 : decode cX10_does 161 = .ok (.if_icmp .ne 7, 3) := by decide +kernel
theorem d_10_does_164 : decode cX10_does 164 = .ok (.iconst 1, 1) := by decide +kernel
theorem d_10_does_165 : decode cX10_does 165 = .ok (.goto 4, 3) := by decide +kernel
theorem d_10_does_168 : decode cX10_does 168 = .ok (.iconst 0, 1) := by decide +kernel
theorem d_10_does_169 : decode cX10_does 169 = .ok (.iadd, 1) := by decide +kernel
theorem d_10_does_170 : decode cX10_does 170 = .ok (.iastore, 1) := by decide +kernel
theorem d_10_does_171 : decode cX10_does 171 = .ok (.iconst 1, 1) := by decide +kernel
theorem d_10_does_172 : decode cX10_does 172 = .ok (.ireturn, 1) := by decide +kernel
theorem d_10_does_173 : decode cX10_does 173 = .ok (.aload_n 0, 1) := by decide +kernel
theorem d_10_does_174 : decode cX10_does 174 = .ok (.getfield 7, 3) := by decide +kernel
theorem d_10_does_177 : decode cX10_does 177 = .ok (.iconst 0, 1) := by decide +kernel
theorem d_10_does_178 : decode cX10_does 178 = .ok (.iaload, 1) := by decide +kernel
theorem d_10_does_179 : decode cX10_does 179 = .ok (.bipush 12, 2) := by decide +kernel
theorem d_10_does_181 : decode cX10_does 181 = .ok (.if_icmp .ne 5, 3) := by decide +kernel
theorem d_10_does_184 : decode cX10_does 184 = .ok (.iconst 0, 1) := by decide +kernel
theorem d_10_does_185 : decode cX10_does 185 = .ok (.ireturn, 1) := by decide +kernel
theorem d_10_does_186 : decode cX10_does 186 = .ok (.bipush 6, 2) := by decide +kernel
theorem d_10_does_188 : decode cX10_does 188 = .ok (.bipush 35, 2) := by decide +kernel
theorem d_10_does_190 : decode cX10_does 190 = .ok (.aload_n 0, 1) := by decide +kernel
theorem d_10_does_191 : decode cX10_does 191 = .ok (.getfield 7, 3) := by decide +kernel
theorem d_10_does_194 : decode cX10_does 194 = .ok (.iconst 0, 1) := by decide +kernel
theorem d_10_does_195 : decode cX10_does 195 = .ok (.iaload, 1) := by decide +kernel
theorem d_10_does_196 : decode cX10_does 196 = .ok (.imul, 1) := by decide +kernel
theorem d_10_does_197 : decode cX10_does 197 = .ok (.iadd, 1) := by decide +kernel
theorem d_10_does_198 : decode cX10_does 198 = .ok (.istore_n 1, 1) := by decide +kernel
theorem d_10_does_199 : decode cX10_does 199 = .ok (.aload_n 0, 1) := by decide +kernel
theorem d_10_does_200 : decode cX10_does 200 = .ok (.getfield 7, 3) := by decide +kernel
theorem d_10_does_203 : decode cX10_does 203 = .ok (.iload_n 1, 1) := by decide +kernel
theorem d_10_does_204 : decode cX10_does 204 = .ok (.aload_n 0, 1) := by decide +kernel
theorem d_10_does_205 : decode cX10_does 205 = .ok (.getfield 136, 3) := by decide +kernel
theorem d_10_does_208 : decode cX10_does 208 = .ok (.iastore, 1) := by decide +kernel
theorem d_10_does_209 : decode cX10_does 209 = .ok (.aload_n 0, 1) := by decide +kernel
theorem d_10_does_210 : decode cX10_does 210 = .ok (.getfield 28, 3) := by decide +kernel
theorem d_10_does_213 : decode cX10_does 213 = .ok (.iconst 0, 1) := by decide +kernel
theorem d_10_does_214 : decode cX10_does 214 = .ok (.aload_n 0, 1) := by decide +kernel
theorem d_10_does_215 : decode cX10_does 215 = .ok (.getfield 7, 3) := by decide +kernel
theorem d_10_does_218 : decode cX10_does 218 = .ok (.iload_n 1, 1) := by decide +kernel
theorem d_10_does_219 : decode cX10_does 219 = .ok (.iconst 1, 1) := by decide +kernel
theorem d_10_does_220 : decode cX10_does 220 = .ok (.iadd, 1) := by decide +kernel
theorem d_10_does_221 : decode cX10_does 221 = .ok (.invokestatic 70, 3) := by decide +kernel
theorem d_10_does_224 : decode cX10_does 224 = .ok (.aload_n 0, 1) := by decide +kernel
theorem d_10_does_225 : decode cX10_does 225 = .ok (.getfield 31, 3) := by decide +kernel
theorem d_10_does_228 : decode cX10_does 228 = .ok (.iconst 0, 1) := by decide +kernel
theorem d_10_does_229 : decode cX10_does 229 = .ok (.aload_n 0, 1) := by decide +kernel
theorem d_10_does_230 : decode cX10_does 230 = .ok (.getfield 7, 3) := by decide +kernel
theorem d_10_does_233 : decode cX10_does 233 = .ok (.iload_n 1, 1) := by decide +kernel
theorem d_10_does_234 : decode cX10_does 234 = .ok (.bipush 18, 2) := by decide +kernel
theorem d_10_does_236 : decode cX10_does 236 = .ok (.iadd, 1) := by decide +kernel
theorem d_10_does_237 : decode cX10_does 237 = .ok (.invokestatic 70, 3) := by decide +kernel
theorem d_10_does_240 : decode cX10_does 240 = .ok (.aload_n 0, 1) := by decide +kernel
theorem d_10_does_241 : decode cX10_does 241 = .ok (.getfield 7, 3) := by decide +kernel
theorem d_10_does_244 : decode cX10_does 244 = .ok (.iconst 0, 1) := by decide +kernel
theorem d_10_does_245 : decode cX10_does 245 = .ok (.dup2, 1) := by decide +kernel
theorem d_10_does_246 : decode cX10_does 246 = .ok (.iaload, 1) := by decide +kernel
theorem d_10_does_247 : decode cX10_does 247 = .ok (.iconst 1, 1) := by decide +kernel
theorem d_10_does_248 : decode cX10_does 248 = .ok (.iadd, 1) := by decide +kernel
theorem d_10_does_249 : decode cX10_does 249 = .ok (.iastore, 1) := by decide +kernel
theorem d_10_does_250 : decode cX10_does 250 = .ok (.iconst 1, 1) := by decide +kernel
theorem d_10_does_251 : decode cX10_does 251 = .ok (.ireturn, 1) := by decide +kernel
theorem d_10_doesAll_0 : decode cX10_doesAll 0 = .ok (.aload_n 0, 1) := by decide +kernel
theorem d_10_doesAll_1 : decode cX10_doesAll 1 = .ok (.iconst 0, 1) := by decide +kernel
theorem d_10_doesAll_2 : decode cX10_doesAll 2 = .ok (.putfield 123, 3) := by decide +kernel
theorem d_10_doesAll_5 : decode cX10_doesAll 5 = .ok (.aload_n 0, 1) := by decide +kernel
theorem d_10_doesAll_6 : decode cX10_doesAll 6 = .ok (.iconst 0, 1) := by decide +kernel
theorem d_10_doesAll_7 : decode cX10_doesAll 7 = .ok (.putfield 155, 3) := by decide +kernel
theorem d_10_doesAll_10 : decode cX10_doesAll 10 = .ok (.aload_n 0, 1) := by decide +kernel
theorem d_10_doesAll_11 : decode cX10_doesAll 11 = .ok (.iconst 0, 1) := by decide +kernel
theorem d_10_doesAll_12 : decode cX10_doesAll 12 = .ok (.putfield 158, 3) := by decide +kernel
theorem d_10_doesAll_15 : decode cX10_doesAll 15 = .ok (.iconst 1, 1) := by decide +kernel
theorem d_10_doesAll_16 : decode cX10_doesAll 16 = .ok (.istore_n 1, 1) := by decide +kernel
theorem d_10_doesAll_17 : decode cX10_doesAll 17 = .ok (.iload_n 1, 1) := by decide +kernel
theorem d_10_doesAll_18 : decode cX10_doesAll 18 = .ok (.ifCond .eq 38, 3) := by decide +kernel
theorem d_10_doesAll_21 : decode cX10_doesAll 21 = .ok (.aload_n 0, 1) := by decide +kernel
theorem d_10_doesAll_22 : decode cX10_doesAll 22 = .ok (.invokevirtual 142, 3) := by decide +kernel
theorem d_10_doesAll_25 : decode cX10_doesAll 25 = .ok (.ifCond .eq 10, 3) := by decide +kernel
theorem d_10_doesAll_28 : decode cX10_doesAll 28 = .ok (.aload_n 0, 1) := by decide +kernel
theorem d_10_doesAll_29 : decode cX10_doesAll 29 = .ok (.invokevirtual 162, 3) := by decide +kernel
theorem d_10_doesAll_32 : decode cX10_doesAll 32 = .ok (.ifCond .ne 4, 3) := by decide +kernel
theorem d_10_doesAll_35 : decode cX10_doesAll 35 = .ok (.return_, 1) := by decide +kernel
theorem d_10_doesAll_36 : decode cX10_doesAll 36 = .ok (.aload_n 0, 1) := by decide +kernel
theorem d_10_doesAll_37 : decode cX10_doesAll 37 = .ok (.dup, 1) := by decide +kernel
theorem d_10_doesAll_38 : decode cX10_doesAll 38 = .ok (.getfield 155, 3) := by decide +kernel
theorem d_10_doesAll_41 : decode cX10_doesAll 41 = .ok (.iconst 1, 1) := by decide +kernel
theorem d_10_doesAll_42 : decode cX10_doesAll 42 = .ok (.iadd, 1) := by decide +kernel
theorem d_10_doesAll_43 : decode cX10_doesAll 43 = .ok (.putfield 155, 3) := by decide +kernel
theorem d_10_doesAll_46 : decode cX10_doesAll 46 = .ok (.aload_n 0, 1) := by decide +kernel
theorem d_10_doesAll_47 : decode cX10_doesAll 47 = .ok (.bipush 59, 2) := by decide +kernel
theorem d_10_doesAll_49 : decode cX10_doesAll 49 = .ok (.invokevirtual 130, 3) := by decide +kernel
theorem d_10_doesAll_52 : decode cX10_doesAll 52 = .ok (.istore_n 1, 1) := by decide +kernel
theorem d_10_doesAll_53 : decode cX10_doesAll 53 = .ok (.goto (-36), 3) := by decide +kernel
theorem d_10_doesAll_56 : decode cX10_doesAll 56 = .ok (.aload_n 0, 1) := by decide +kernel
theorem d_10_doesAll_57 : decode cX10_doesAll 57 = .ok (.iconst 1, 1) := by decide +kernel
theorem d_10_doesAll_58 : decode cX10_doesAll 58 = .ok (.putfield 158, 3) := by decide +kernel
theorem d_10_doesAll_61 : decode cX10_doesAll 61 = .ok (.return_, 1) := by decide +kernel
theorem d_10_tries_0 : decode cX10_tries 0 = .ok (.iconst 0, 1) := by decide +kernel
theorem d_10_tries_1 : decode cX10_tries 1 = .ok (.istore_n 1, 1) := by decide +kernel
theorem d_10_tries_2 : decode cX10_tries 2 = .ok (.iload_n 1, 1) := by decide +kernel
theorem d_10_tries_3 : decode cX10_tries 3 = .ok (.sipush 1676, 3) := by decide +kernel
theorem d_10_tries_6 : decode cX10_tries 6 = .ok (.if_icmp .ge 21, 3) := by decide +kernel
theorem d_10_tries_9 : decode cX10_tries 9 = .ok (.aload_n 0, 1) := by decide +kernel
theorem d_10_tries_10 : decode cX10_tries 10 = .ok (.getfield 13, 3) := by decide +kernel
theorem d_10_tries_13 : decode cX10_tries 13 = .ok (.iload_n 1, 1) := by decide +kernel
theorem d_10_tries_14 : decode cX10_tries 14 = .ok (.aload_n 0, 1) := by decide +kernel
theorem d_10_tries_15 : decode cX10_tries 15 = .ok (.getfield 7, 3) := by decide +kernel
theorem d_10_tries_18 : decode cX10_tries 18 = .ok (.iload_n 1, 1) := by decide +kernel
theorem d_10_tries_19 : decode cX10_tries 19 = .ok (.iaload, 1) := by decide +kernel
theorem d_10_tries_20 : decode cX10_tries 20 = .ok (.iastore, 1) := by decide +kernel
theorem d_10_tries_21 : decode cX10_tries 21 = .ok (.iinc 1 1, 3) := by decide +kernel
theorem d_10_tries_24 : decode cX10_tries 24 = .ok (.goto (-22), 3) := by decide +kernel
theorem d_10_tries_27 : decode cX10_tries 27 = .ok (.aload_n 0, 1) := by decide +kernel
theorem d_10_tries_28 : decode cX10_tries 28 = .ok (.invokevirtual 165, 3) := by decide +kernel
theorem d_10_tries_31 : decode cX10_tries 31 = .ok (.iconst 0, 1) := by decide +kernel
theorem d_10_tries_32 : decode cX10_tries 32 = .ok (.istore_n 1, 1) := by decide +kernel
theorem d_10_tries_33 : decode cX10_tries 33 = .ok (.iload_n 1, 1) := by decide +kernel
theorem d_10_tries_34 : decode cX10_tries 34 = .ok (.sipush 1676, 3) := by decide +kernel
theorem d_10_tries_37 : decode cX10_tries 37 = .ok (.if_icmp .ge 21, 3) := by decide +kernel
theorem d_10_tries_40 : decode cX10_tries 40 = .ok (.aload_n 0, 1) := by decide +kernel
theorem d_10_tries_41 : decode cX10_tries 41 = .ok (.getfield 7, 3) := by decide +kernel
theorem d_10_tries_44 : decode cX10_tries 44 = .ok (.iload_n 1, 1) := by decide +kernel
theorem d_10_tries_45 : decode cX10_tries 45 = .ok (.aload_n 0, 1) := by decide +kernel
theorem d_10_tries_46 : decode cX10_tries 46 = .ok (.getfield 13, 3) := by decide +kernel
theorem d_10_tries_49 : decode cX10_tries 49 = .ok (.iload_n 1, 1) := by decide +kernel
theorem d_10_tries_50 : decode cX10_tries 50 = .ok (.iaload, 1) := by decide +kernel
theorem d_10_tries_51 : decode cX10_tries 51 = .ok (.iastore, 1) := by decide +kernel
theorem d_10_tries_52 : decode cX10_tries 52 = .ok (.iinc 1 1, 3) := by decide +kernel
theorem d_10_tries_55 : decode cX10_tries 55 = .ok (.goto (-22), 3) := by decide +kernel
theorem d_10_tries_58 : decode cX10_tries 58 = .ok (.return_, 1) := by decide +kernel
theorem d_10_impossibleOrder_0 : decode cX10_impossibleOrder 0 = .ok (.aload_n 0, 1) := by decide +kernel
theorem d_10_impossibleOrder_1 : decode cX10_impossibleOrder 1 = .ok (.invokevirtual 146, 3) := by decide +kernel
theorem d_10_impossibleOrder_4 : decode cX10_impossibleOrder 4 = .ok (.iconst (-1), 1) := by decide +kernel
theorem d_10_impossibleOrder_5 : decode cX10_impossibleOrder 5 = .ok (.if_icmp .eq 9, 3) := by decide +kernel
theorem d_10_impossibleOrder_8 : decode cX10_impossibleOrder 8 = .ok (.aload_n 0, 1) := by decide +kernel
theorem d_10_impossibleOrder_9 : decode cX10_impossibleOrder 9 = .ok (.iconst 1, 1) := by decide +kernel
theorem d_10_impossibleOrder_10 : decode cX10_impossibleOrder 10 = .ok (.invokevirtual 95, 3) := by decide +kernel
theorem d_10_impossibleOrder_13 : decode cX10_impossibleOrder 13 = .ok (.ireturn, 1) := by decide +kernel
theorem d_10_impossibleOrder_14 : decode cX10_impossibleOrder 14 = .ok (.aload_n 0, 1) := by decide +kernel
theorem d_10_impossibleOrder_15 : decode cX10_impossibleOrder 15 = .ok (.invokevirtual 168, 3) := by decide +kernel
theorem d_10_impossibleOrder_18 : decode cX10_impossibleOrder 18 = .ok (.aload_n 0, 1) := by decide +kernel
theorem d_10_impossibleOrder_19 : decode cX10_impossibleOrder 19 = .ok (.aload_n 0, 1) := by decide +kernel
theorem d_10_impossibleOrder_20 : decode cX10_impossibleOrder 20 = .ok (.getfield 158, 3) := by decide +kernel
theorem d_10_impossibleOrder_23 : decode cX10_impossibleOrder 23 = .ok (.ifCond .eq 7, 3) := by decide +kernel
theorem d_10_impossibleOrder_26 : decode cX10_impossibleOrder 26 = .ok (.iconst (-1), 1) := by decide +kernel
theorem d_10_impossibleOrder_27 : decode cX10_impossibleOrder 27 = .ok (.goto 7, 3) := by decide +kernel
theorem d_10_impossibleOrder_30 : decode cX10_impossibleOrder 30 = .ok (.aload_n 0, 1) := by decide +kernel
theorem d_10_impossibleOrder_31 : decode cX10_impossibleOrder 31 = .ok (.getfield 155, 3) := by decide +kernel
theorem d_10_impossibleOrder_34 : decode cX10_impossibleOrder 34 = .ok (.invokevirtual 149, 3) := by decide +kernel
theorem d_10_impossibleOrder_37 : decode cX10_impossibleOrder 37 = .ok (.ireturn, 1) := by decide +kernel
theorem d_10_carryOut_0 : decode cX10_carryOut 0 = .ok (.aload_n 0, 1) := by decide +kernel
theorem d_10_carryOut_1 : decode cX10_carryOut 1 = .ok (.invokevirtual 146, 3) := by decide +kernel
theorem d_10_carryOut_4 : decode cX10_carryOut 4 = .ok (.iconst (-1), 1) := by decide +kernel
theorem d_10_carryOut_5 : decode cX10_carryOut 5 = .ok (.if_icmp .eq 9, 3) := by decide +kernel
theorem d_10_carryOut_8 : decode cX10_carryOut 8 = .ok (.aload_n 0, 1) := by decide +kernel
theorem d_10_carryOut_9 : decode cX10_carryOut 9 = .ok (.iconst 1, 1) := by decide +kernel
theorem d_10_carryOut_10 : decode cX10_carryOut 10 = .ok (.invokevirtual 95, 3) := by decide +kernel
theorem d_10_carryOut_13 : decode cX10_carryOut 13 = .ok (.ireturn, 1) := by decide +kernel
theorem d_10_carryOut_14 : decode cX10_carryOut 14 = .ok (.aload_n 0, 1) := by decide +kernel
theorem d_10_carryOut_15 : decode cX10_carryOut 15 = .ok (.invokevirtual 168, 3) := by decide +kernel
theorem d_10_carryOut_18 : decode cX10_carryOut 18 = .ok (.aload_n 0, 1) := by decide +kernel
theorem d_10_carryOut_19 : decode cX10_carryOut 19 = .ok (.getfield 158, 3) := by decide +kernel
theorem d_10_carryOut_22 : decode cX10_carryOut 22 = .ok (.ifCond .ne 9, 3) := by decide +kernel
theorem d_10_carryOut_25 : decode cX10_carryOut 25 = .ok (.aload_n 0, 1) := by decide +kernel
theorem d_10_carryOut_26 : decode cX10_carryOut 26 = .ok (.iconst 1, 1) := by decide +kernel
theorem d_10_carryOut_27 : decode cX10_carryOut 27 = .ok (.invokevirtual 95, 3) := by decide +kernel
theorem d_10_carryOut_30 : decode cX10_carryOut 30 = .ok (.ireturn, 1) := by decide +kernel
theorem d_10_carryOut_31 : decode cX10_carryOut 31 = .ok (.aload_n 0, 1) := by decide +kernel
theorem d_10_carryOut_32 : decode cX10_carryOut 32 = .ok (.invokevirtual 104, 3) := by decide +kernel
theorem d_10_carryOut_35 : decode cX10_carryOut 35 = .ok (.aload_n 0, 1) := by decide +kernel
theorem d_10_carryOut_36 : decode cX10_carryOut 36 = .ok (.invokevirtual 165, 3) := by decide +kernel
theorem d_10_carryOut_39 : decode cX10_carryOut 39 = .ok (.aload_n 0, 1) := by decide +kernel
theorem d_10_carryOut_40 : decode cX10_carryOut 40 = .ok (.getfield 155, 3) := by decide +kernel
theorem d_10_carryOut_43 : decode cX10_carryOut 43 = .ok (.ireturn, 1) := by decide +kernel
theorem d_10_undo_0 : decode cX10_undo 0 = .ok (.aload_n 0, 1) := by decide +kernel
theorem d_10_undo_1 : decode cX10_undo 1 = .ok (.getfield 44, 3) := by decide +kernel
theorem d_10_undo_4 : decode cX10_undo 4 = .ok (.ifCond .ne 9, 3) := by decide +kernel
theorem d_10_undo_7 : decode cX10_undo 7 = .ok (.aload_n 0, 1) := by decide +kernel
theorem d_10_undo_8 : decode cX10_undo 8 = .ok (.iconst 1, 1) := by decide +kernel
theorem d_10_undo_9 : decode cX10_undo 9 = .ok (.invokevirtual 95, 3) := by decide +kernel
theorem d_10_undo_12 : decode cX10_undo 12 = .ok (.ireturn, 1) := by decide +kernel
theorem d_10_undo_13 : decode cX10_undo 13 = .ok (.aload_n 0, 1) := by decide +kernel
theorem d_10_undo_14 : decode cX10_undo 14 = .ok (.iconst 0, 1) := by decide +kernel
theorem d_10_undo_15 : decode cX10_undo 15 = .ok (.putfield 40, 3) := by decide +kernel
theorem d_10_undo_18 : decode cX10_undo 18 = .ok (.aload_n 0, 1) := by decide +kernel
theorem d_10_undo_19 : decode cX10_undo 19 = .ok (.dup, 1) := by decide +kernel
theorem d_10_undo_20 : decode cX10_undo 20 = .ok (.getfield 44, 3) := by decide +kernel
theorem d_10_undo_23 : decode cX10_undo 23 = .ok (.iconst 1, 1) := by decide +kernel
theorem d_10_undo_24 : decode cX10_undo 24 = .ok (.isub, 1) := by decide +kernel
theorem d_10_undo_25 : decode cX10_undo 25 = .ok (.putfield 44, 3) := by decide +kernel
theorem d_10_undo_28 : decode cX10_undo 28 = .ok (.iconst 0, 1) := by decide +kernel
theorem d_10_undo_29 : decode cX10_undo 29 = .ok (.istore_n 1, 1) := by decide +kernel
theorem d_10_undo_30 : decode cX10_undo 30 = .ok (.iload_n 1, 1) := by decide +kernel
theorem d_10_undo_31 : decode cX10_undo 31 = .ok (.sipush 1676, 3) := by decide +kernel
theorem d_10_undo_34 : decode cX10_undo 34 = .ok (.if_icmp .ge 30, 3) := by decide +kernel
theorem d_10_undo_37 : decode cX10_undo 37 = .ok (.aload_n 0, 1) := by decide +kernel
theorem d_10_undo_38 : decode cX10_undo 38 = .ok (.getfield 7, 3) := by decide +kernel
theorem d_10_undo_41 : decode cX10_undo 41 = .ok (.iload_n 1, 1) := by decide +kernel
theorem d_10_undo_42 : decode cX10_undo 42 = .ok (.aload_n 0, 1) := by decide +kernel
theorem d_10_undo_43 : decode cX10_undo 43 = .ok (.getfield 16, 3) := by decide +kernel
theorem d_10_undo_46 : decode cX10_undo 46 = .ok (.sipush 1676, 3) := by decide +kernel
theorem d_10_undo_49 : decode cX10_undo 49 = .ok (.aload_n 0, 1) := by decide +kernel
theorem d_10_undo_50 : decode cX10_undo 50 = .ok (.getfield 44, 3) := by decide +kernel
theorem d_10_undo_53 : decode cX10_undo 53 = .ok (.imul, 1) := by decide +kernel
theorem d_10_undo_54 : decode cX10_undo 54 = .ok (.iload_n 1, 1) := by decide +kernel
theorem d_10_undo_55 : decode cX10_undo 55 = .ok (.iadd, 1) := by decide +kernel
theorem d_10_undo_56 : decode cX10_undo 56 = .ok (.iaload, 1) := by decide +kernel
theorem d_10_undo_57 : decode cX10_undo 57 = .ok (.iastore, 1) := by decide +kernel
theorem d_10_undo_58 : decode cX10_undo 58 = .ok (.iinc 1 1, 3) := by decide +kernel
theorem d_10_undo_61 : decode cX10_undo 61 = .ok (.goto (-31), 3) := by decide +kernel
theorem d_10_undo_64 : decode cX10_undo 64 = .ok (.aload_n 0, 1) := by decide +kernel
theorem d_10_undo_65 : decode cX10_undo 65 = .ok (.getfield 44, 3) := by decide +kernel
theorem d_10_undo_68 : decode cX10_undo 68 = .ok (.ireturn, 1) := by decide +kernel
theorem d_10_takeSnapshot_0 : decode cX10_takeSnapshot 0 = .ok (.iconst 0, 1) := by decide +kernel
theorem d_10_takeSnapshot_1 : decode cX10_takeSnapshot 1 = .ok (.istore_n 1, 1) := by decide +kernel
theorem d_10_takeSnapshot_2 : decode cX10_takeSnapshot 2 = .ok (.iload_n 1, 1) := by decide +kernel
theorem d_10_takeSnapshot_3 : decode cX10_takeSnapshot 3 = .ok (.sipush 1676, 3) := by decide +kernel
theorem d_10_takeSnapshot_6 : decode cX10_takeSnapshot 6 = .ok (.if_icmp .ge 21, 3) := by decide +kernel
theorem d_10_takeSnapshot_9 : decode cX10_takeSnapshot 9 = .ok (.aload_n 0, 1) := by decide +kernel
theorem d_10_takeSnapshot_10 : decode cX10_takeSnapshot 10 = .ok (.getfield 19, 3) := by decide +kernel
theorem d_10_takeSnapshot_13 : decode cX10_takeSnapshot 13 = .ok (.iload_n 1, 1) := by decide +kernel
theorem d_10_takeSnapshot_14 : decode cX10_takeSnapshot 14 = .ok (.aload_n 0, 1) := by decide +kernel
theorem d_10_takeSnapshot_15 : decode cX10_takeSnapshot 15 = .ok (.getfield 7, 3) := by decide +kernel
theorem d_10_takeSnapshot_18 : decode cX10_takeSnapshot 18 = .ok (.iload_n 1, 1) := by decide +kernel
theorem d_10_takeSnapshot_19 : decode cX10_takeSnapshot 19 = .ok (.iaload, 1) := by decide +kernel
theorem d_10_takeSnapshot_20 : decode cX10_takeSnapshot 20 = .ok (.iastore, 1) := by decide +kernel
theorem d_10_takeSnapshot_21 : decode cX10_takeSnapshot 21 = .ok (.iinc 1 1, 3) := by decide +kernel
theorem d_10_takeSnapshot_24 : decode cX10_takeSnapshot 24 = .ok (.goto (-22), 3) := by decide +kernel
theorem d_10_takeSnapshot_27 : decode cX10_takeSnapshot 27 = .ok (.aload_n 0, 1) := by decide +kernel
theorem d_10_takeSnapshot_28 : decode cX10_takeSnapshot 28 = .ok (.iconst 1, 1) := by decide +kernel
theorem d_10_takeSnapshot_29 : decode cX10_takeSnapshot 29 = .ok (.putfield 171, 3) := by decide +kernel
theorem d_10_takeSnapshot_32 : decode cX10_takeSnapshot 32 = .ok (.aload_n 0, 1) := by decide +kernel
theorem d_10_takeSnapshot_33 : decode cX10_takeSnapshot 33 = .ok (.aload_n 0, 1) := by decide +kernel
theorem d_10_takeSnapshot_34 : decode cX10_takeSnapshot 34 = .ok (.getfield 7, 3) := by decide +kernel
theorem d_10_takeSnapshot_37 : decode cX10_takeSnapshot 37 = .ok (.iconst 2, 1) := by decide +kernel
theorem d_10_takeSnapshot_38 : decode cX10_takeSnapshot 38 = .ok (.iaload, 1) := by decide +kernel
theorem d_10_takeSnapshot_39 : decode cX10_takeSnapshot 39 = .ok (.invokevirtual 149, 3) := by decide +kernel
theorem d_10_takeSnapshot_42 : decode cX10_takeSnapshot 42 = .ok (.ireturn, 1) := by decide +kernel
theorem d_10_restoreSnapshot_0 : decode cX10_restoreSnapshot 0 = .ok (.aload_n 0, 1) := by decide +kernel
theorem d_10_restoreSnapshot_1 : decode cX10_restoreSnapshot 1 = .ok (.getfield 171, 3) := by decide +kernel
theorem d_10_restoreSnapshot_4 : decode cX10_restoreSnapshot 4 = .ok (.ifCond .ne 9, 3) := by decide +kernel
theorem d_10_restoreSnapshot_7 : decode cX10_restoreSnapshot 7 = .ok (.aload_n 0, 1) := by decide +kernel
theorem d_10_restoreSnapshot_8 : decode cX10_restoreSnapshot 8 = .ok (.iconst 1, 1) := by decide +kernel
theorem d_10_restoreSnapshot_9 : decode cX10_restoreSnapshot 9 = .ok (.invokevirtual 95, 3) := by decide +kernel
theorem d_10_restoreSnapshot_12 : decode cX10_restoreSnapshot 12 = .ok (.ireturn, 1) := by decide +kernel
theorem d_10_restoreSnapshot_13 : decode cX10_restoreSnapshot 13 = .ok (.aload_n 0, 1) := by decide +kernel
theorem d_10_restoreSnapshot_14 : decode cX10_restoreSnapshot 14 = .ok (.invokevirtual 104, 3) := by decide +kernel
theorem d_10_restoreSnapshot_17 : decode cX10_restoreSnapshot 17 = .ok (.iconst 0, 1) := by decide +kernel
theorem d_10_restoreSnapshot_18 : decode cX10_restoreSnapshot 18 = .ok (.istore_n 1, 1) := by decide +kernel
theorem d_10_restoreSnapshot_19 : decode cX10_restoreSnapshot 19 = .ok (.iload_n 1, 1) := by decide +kernel
theorem d_10_restoreSnapshot_20 : decode cX10_restoreSnapshot 20 = .ok (.sipush 1676, 3) := by decide +kernel
theorem d_10_restoreSnapshot_23 : decode cX10_restoreSnapshot 23 = .ok (.if_icmp .ge 21, 3) := by decide +kernel
theorem d_10_restoreSnapshot_26 : decode cX10_restoreSnapshot 26 = .ok (.aload_n 0, 1) := by decide +kernel
theorem d_10_restoreSnapshot_27 : decode cX10_restoreSnapshot 27 = .ok (.getfield 7, 3) := by decide +kernel
theorem d_10_restoreSnapshot_30 : decode cX10_restoreSnapshot 30 = .ok (.iload_n 1, 1) := by decide +kernel
theorem d_10_restoreSnapshot_31 : decode cX10_restoreSnapshot 31 = .ok (.aload_n 0, 1) := by decide +kernel
theorem d_10_restoreSnapshot_32 : decode cX10_restoreSnapshot 32 = .ok (.getfield 19, 3) := by decide +kernel
theorem d_10_restoreSnapshot_35 : decode cX10_restoreSnapshot 35 = .ok (.iload_n 1, 1) := by decide +kernel
theorem d_10_restoreSnapshot_36 : decode cX10_restoreSnapshot 36 = .ok (.iaload, 1) := by decide +kernel
theorem d_10_restoreSnapshot_37 : decode cX10_restoreSnapshot 37 = .ok (.iastore, 1) := by decide +kernel
theorem d_10_restoreSnapshot_38 : decode cX10_restoreSnapshot 38 = .ok (.iinc 1 1, 3) := by decide +kernel
theorem d_10_restoreSnapshot_41 : decode cX10_restoreSnapshot 41 = .ok (.goto (-22), 3) := by decide +kernel
theorem d_10_restoreSnapshot_44 : decode cX10_restoreSnapshot 44 = .ok (.aload_n 0, 1) := by decide +kernel
theorem d_10_restoreSnapshot_45 : decode cX10_restoreSnapshot 45 = .ok (.getfield 7, 3) := by decide +kernel
theorem d_10_restoreSnapshot_48 : decode cX10_restoreSnapshot 48 = .ok (.iconst 2, 1) := by decide +kernel
theorem d_10_restoreSnapshot_49 : decode cX10_restoreSnapshot 49 = .ok (.iaload, 1) := by decide +kernel
theorem d_10_restoreSnapshot_50 : decode cX10_restoreSnapshot 50 = .ok (.ireturn, 1) := by decide +kernel
theorem d_10_nouns_0 : decode cX10_nouns 0 = .ok (.aload_n 0, 1) := by decide +kernel
theorem d_10_nouns_1 : decode cX10_nouns 1 = .ok (.aload_n 0, 1) := by decide +kernel
theorem d_10_nouns_2 : decode cX10_nouns 2 = .ok (.getfield 7, 3) := by decide +kernel
theorem d_10_nouns_5 : decode cX10_nouns 5 = .ok (.iconst 2, 1) := by decide +kernel
theorem d_10_nouns_6 : decode cX10_nouns 6 = .ok (.iaload, 1) := by decide +kernel
theorem d_10_nouns_7 : decode cX10_nouns 7 = .ok (.invokevirtual 149, 3) := by decide +kernel
theorem d_10_nouns_10 : decode cX10_nouns 10 = .ok (.ireturn, 1) := by decide +kernel
theorem d_10_lettersOf_0 : decode cX10_lettersOf 0 = .ok (.aload_n 0, 1) := by decide +kernel
theorem d_10_lettersOf_1 : decode cX10_lettersOf 1 = .ok (.iload_n 1, 1) := by decide +kernel
theorem d_10_lettersOf_2 : decode cX10_lettersOf 2 = .ok (.invokevirtual 92, 3) := by decide +kernel
theorem d_10_lettersOf_5 : decode cX10_lettersOf 5 = .ok (.ifCond .eq 23, 3) := by decide +kernel
theorem d_10_lettersOf_8 : decode cX10_lettersOf 8 = .ok (.aload_n 0, 1) := by decide +kernel
theorem d_10_lettersOf_9 : decode cX10_lettersOf 9 = .ok (.aload_n 0, 1) := by decide +kernel
theorem d_10_lettersOf_10 : decode cX10_lettersOf 10 = .ok (.getfield 7, 3) := by decide +kernel
theorem d_10_lettersOf_13 : decode cX10_lettersOf 13 = .ok (.sipush 766, 3) := by decide +kernel
theorem d_10_lettersOf_16 : decode cX10_lettersOf 16 = .ok (.bipush 17, 2) := by decide +kernel
theorem d_10_lettersOf_18 : decode cX10_lettersOf 18 = .ok (.iload_n 1, 1) := by decide +kernel
theorem d_10_lettersOf_19 : decode cX10_lettersOf 19 = .ok (.imul, 1) := by decide +kernel
theorem d_10_lettersOf_20 : decode cX10_lettersOf 20 = .ok (.iadd, 1) := by decide +kernel
theorem d_10_lettersOf_21 : decode cX10_lettersOf 21 = .ok (.iaload, 1) := by decide +kernel
theorem d_10_lettersOf_22 : decode cX10_lettersOf 22 = .ok (.invokevirtual 149, 3) := by decide +kernel
theorem d_10_lettersOf_25 : decode cX10_lettersOf 25 = .ok (.goto 8, 3) := by decide +kernel
theorem d_10_lettersOf_28 : decode cX10_lettersOf 28 = .ok (.aload_n 0, 1) := by decide +kernel
theorem d_10_lettersOf_29 : decode cX10_lettersOf 29 = .ok (.iconst 1, 1) := by decide +kernel
theorem d_10_lettersOf_30 : decode cX10_lettersOf 30 = .ok (.invokevirtual 95, 3) := by decide +kernel
theorem d_10_lettersOf_33 : decode cX10_lettersOf 33 = .ok (.ireturn, 1) := by decide +kernel
theorem d_10_pluralLetters_0 : decode cX10_pluralLetters 0 = .ok (.aload_n 0, 1) := by decide +kernel
theorem d_10_pluralLetters_1 : decode cX10_pluralLetters 1 = .ok (.iload_n 1, 1) := by decide +kernel
theorem d_10_pluralLetters_2 : decode cX10_pluralLetters 2 = .ok (.invokevirtual 92, 3) := by decide +kernel
theorem d_10_pluralLetters_5 : decode cX10_pluralLetters 5 = .ok (.ifCond .ne 9, 3) := by decide +kernel
theorem d_10_pluralLetters_8 : decode cX10_pluralLetters 8 = .ok (.aload_n 0, 1) := by decide +kernel
theorem d_10_pluralLetters_9 : decode cX10_pluralLetters 9 = .ok (.iconst 1, 1) := by decide +kernel
theorem d_10_pluralLetters_10 : decode cX10_pluralLetters 10 = .ok (.invokevirtual 95, 3) := by decide +kernel
theorem d_10_pluralLetters_13 : decode cX10_pluralLetters 13 = .ok (.ireturn, 1) := by decide +kernel
theorem d_10_pluralLetters_14 : decode cX10_pluralLetters 14 = .ok (.aload_n 0, 1) := by decide +kernel
theorem d_10_pluralLetters_15 : decode cX10_pluralLetters 15 = .ok (.iload_n 1, 1) := by decide +kernel
theorem d_10_pluralLetters_16 : decode cX10_pluralLetters 16 = .ok (.invokevirtual 85, 3) := by decide +kernel
theorem d_10_pluralLetters_19 : decode cX10_pluralLetters 19 = .ok (.aload_n 0, 1) := by decide +kernel
theorem d_10_pluralLetters_20 : decode cX10_pluralLetters 20 = .ok (.aload_n 0, 1) := by decide +kernel
theorem d_10_pluralLetters_21 : decode cX10_pluralLetters 21 = .ok (.getfield 22, 3) := by decide +kernel
theorem d_10_pluralLetters_24 : decode cX10_pluralLetters 24 = .ok (.iconst 0, 1) := by decide +kernel
theorem d_10_pluralLetters_25 : decode cX10_pluralLetters 25 = .ok (.iaload, 1) := by decide +kernel
theorem d_10_pluralLetters_26 : decode cX10_pluralLetters 26 = .ok (.invokevirtual 149, 3) := by decide +kernel
theorem d_10_pluralLetters_29 : decode cX10_pluralLetters 29 = .ok (.ireturn, 1) := by decide +kernel
theorem d_10_pluralLetter_0 : decode cX10_pluralLetter 0 = .ok (.aload_n 0, 1) := by decide +kernel
theorem d_10_pluralLetter_1 : decode cX10_pluralLetter 1 = .ok (.iconst 1, 1) := by decide +kernel
theorem d_10_pluralLetter_2 : decode cX10_pluralLetter 2 = .ok (.putfield 40, 3) := by decide +kernel
theorem d_10_pluralLetter_5 : decode cX10_pluralLetter 5 = .ok (.aload_n 0, 1) := by decide +kernel
theorem d_10_pluralLetter_6 : decode cX10_pluralLetter 6 = .ok (.iload_n 1, 1) := by decide +kernel
theorem d_10_pluralLetter_7 : decode cX10_pluralLetter 7 = .ok (.invokevirtual 92, 3) := by decide +kernel
theorem d_10_pluralLetter_10 : decode cX10_pluralLetter 10 = .ok (.ifCond .ne 6, 3) := by decide +kernel
theorem d_10_pluralLetter_13 : decode cX10_pluralLetter 13 = .ok (.bipush 97, 2) := by decide +kernel
theorem d_10_pluralLetter_15 : decode cX10_pluralLetter 15 = .ok (.ireturn, 1) := by decide +kernel
theorem d_10_pluralLetter_16 : decode cX10_pluralLetter 16 = .ok (.aload_n 0, 1) := by decide +kernel
theorem d_10_pluralLetter_17 : decode cX10_pluralLetter 17 = .ok (.iload_n 1, 1) := by decide +kernel
theorem d_10_pluralLetter_18 : decode cX10_pluralLetter 18 = .ok (.invokevirtual 85, 3) := by decide +kernel
theorem d_10_pluralLetter_21 : decode cX10_pluralLetter 21 = .ok (.iload_n 2, 1) := by decide +kernel
theorem d_10_pluralLetter_22 : decode cX10_pluralLetter 22 = .ok (.i2l, 1) := by decide +kernel
theorem d_10_pluralLetter_23 : decode cX10_pluralLetter 23 = .ok (.lconst 0, 1) := by decide +kernel
theorem d_10_pluralLetter_24 : decode cX10_pluralLetter 24 = .ok (.aload_n 0, 1) := by decide +kernel
theorem d_10_pluralLetter_25 : decode cX10_pluralLetter 25 = .ok (.getfield 22, 3) := by decide +kernel
theorem d_10_pluralLetter_28 : decode cX10_pluralLetter 28 = .ok (.iconst 0, 1) := by decide +kernel
theorem d_10_pluralLetter_29 : decode cX10_pluralLetter 29 = .ok (.iaload, 1) := by decide +kernel
theorem d_10_pluralLetter_30 : decode cX10_pluralLetter 30 = .ok (.i2l, 1) := by decide +kernel
theorem d_10_pluralLetter_31 : decode cX10_pluralLetter 31 = .ok (.lconst 1, 1) := by decide +kernel
theorem d_10_pluralLetter_32 : decode cX10_pluralLetter 32 = .ok (.lsub, 1) := by decide +kernel
theorem d_10_pluralLetter_33 : decode cX10_pluralLetter 33 = .ok (.invokestatic 47, 3) := by decide +kernel
theorem d_10_pluralLetter_36 : decode cX10_pluralLetter 36 = .ok (.ifCond .ne 6, 3) := by decide +kernel
theorem d_10_pluralLetter_39 : decode cX10_pluralLetter 39 = .ok (.bipush 97, 2) := by decide +kernel
theorem d_10_pluralLetter_41 : decode cX10_pluralLetter 41 = .ok (.ireturn, 1) := by decide +kernel
theorem d_10_pluralLetter_42 : decode cX10_pluralLetter 42 = .ok (.aload_n 0, 1) := by decide +kernel
theorem d_10_pluralLetter_43 : decode cX10_pluralLetter 43 = .ok (.iconst 0, 1) := by decide +kernel
theorem d_10_pluralLetter_44 : decode cX10_pluralLetter 44 = .ok (.putfield 40, 3) := by decide +kernel
theorem d_10_pluralLetter_47 : decode cX10_pluralLetter 47 = .ok (.bipush 97, 2) := by decide +kernel
theorem d_10_pluralLetter_49 : decode cX10_pluralLetter 49 = .ok (.aload_n 0, 1) := by decide +kernel
theorem d_10_pluralLetter_50 : decode cX10_pluralLetter 50 = .ok (.getfield 22, 3) := by decide +kernel
theorem d_10_pluralLetter_53 : decode cX10_pluralLetter 53 = .ok (.iconst 1, 1) := by decide +kernel
theorem d_10_pluralLetter_54 : decode cX10_pluralLetter 54 = .ok (.iload_n 2, 1) := by decide +kernel
theorem d_10_pluralLetter_55 : decode cX10_pluralLetter 55 = .ok (.iadd, 1) := by decide +kernel
theorem d_10_pluralLetter_56 : decode cX10_pluralLetter 56 = .ok (.iaload, 1) := by decide +kernel
theorem d_10_pluralLetter_57 : decode cX10_pluralLetter 57 = .ok (.iadd, 1) := by decide +kernel
theorem d_10_pluralLetter_58 : decode cX10_pluralLetter 58 = .ok (.i2c, 1) := by decide +kernel
theorem d_10_pluralLetter_59 : decode cX10_pluralLetter 59 = .ok (.ireturn, 1) := by decide +kernel
theorem d_10_countedLetter_0 : decode cX10_countedLetter 0 = .ok (.aload_n 0, 1) := by decide +kernel
theorem d_10_countedLetter_1 : decode cX10_countedLetter 1 = .ok (.aload_n 0, 1) := by decide +kernel
theorem d_10_countedLetter_2 : decode cX10_countedLetter 2 = .ok (.iload_n 1, 1) := by decide +kernel
theorem d_10_countedLetter_3 : decode cX10_countedLetter 3 = .ok (.invokevirtual 92, 3) := by decide +kernel
theorem d_10_countedLetter_6 : decode cX10_countedLetter 6 = .ok (.ifCond .ne 7, 3) := by decide +kernel
theorem d_10_countedLetter_9 : decode cX10_countedLetter 9 = .ok (.iconst 1, 1) := by decide +kernel
theorem d_10_countedLetter_10 : decode cX10_countedLetter 10 = .ok (.goto 20, 3) := by decide +kernel
theorem d_10_countedLetter_13 : decode cX10_countedLetter 13 = .ok (.iload_n 2, 1) := by decide +kernel
theorem d_10_countedLetter_14 : decode cX10_countedLetter 14 = .ok (.i2l, 1) := by decide +kernel
theorem d_10_countedLetter_15 : decode cX10_countedLetter 15 = .ok (.lconst 0, 1) := by decide +kernel
theorem d_10_countedLetter_16 : decode cX10_countedLetter 16 = .ok (.ldc2_w 174, 3) := by decide +kernel
theorem d_10_countedLetter_19 : decode cX10_countedLetter 19 = .ok (.invokestatic 47, 3) := by decide +kernel
theorem d_10_countedLetter_22 : decode cX10_countedLetter 22 = .ok (.ifCond .ne 7, 3) := by decide +kernel
theorem d_10_countedLetter_25 : decode cX10_countedLetter 25 = .ok (.iconst 2, 1) := by decide +kernel
theorem d_10_countedLetter_26 : decode cX10_countedLetter 26 = .ok (.goto 4, 3) := by decide +kernel
theorem d_10_countedLetter_29 : decode cX10_countedLetter 29 = .ok (.iconst 0, 1) := by decide +kernel
theorem d_10_countedLetter_30 : decode cX10_countedLetter 30 = .ok (.putfield 40, 3) := by decide +kernel
theorem d_10_countedLetter_33 : decode cX10_countedLetter 33 = .ok (.aload_n 0, 1) := by decide +kernel
theorem d_10_countedLetter_34 : decode cX10_countedLetter 34 = .ok (.getfield 40, 3) := by decide +kernel
theorem d_10_countedLetter_37 : decode cX10_countedLetter 37 = .ok (.ifCond .eq 6, 3) := by decide +kernel
theorem d_10_countedLetter_40 : decode cX10_countedLetter 40 = .ok (.bipush 97, 2) := by decide +kernel
theorem d_10_countedLetter_42 : decode cX10_countedLetter 42 = .ok (.ireturn, 1) := by decide +kernel
theorem d_10_countedLetter_43 : decode cX10_countedLetter 43 = .ok (.iload_n 2, 1) := by decide +kernel
theorem d_10_countedLetter_44 : decode cX10_countedLetter 44 = .ok (.iconst 1, 1) := by decide +kernel
theorem d_10_countedLetter_45 : decode cX10_countedLetter 45 = .ok (.if_icmp .eq 10, 3) := by decide +kernel
theorem d_10_countedLetter_48 : decode cX10_countedLetter 48 = .ok (.aload_n 0, 1) := by decide +kernel
theorem d_10_countedLetter_49 : decode cX10_countedLetter 49 = .ok (.iload_n 1, 1) := by decide +kernel
theorem d_10_countedLetter_50 : decode cX10_countedLetter 50 = .ok (.iload_n 3, 1) := by decide +kernel
theorem d_10_countedLetter_51 : decode cX10_countedLetter 51 = .ok (.invokevirtual 176, 3) := by decide +kernel
theorem d_10_countedLetter_54 : decode cX10_countedLetter 54 = .ok (.ireturn, 1) := by decide +kernel
theorem d_10_countedLetter_55 : decode cX10_countedLetter 55 = .ok (.aload_n 0, 1) := by decide +kernel
theorem d_10_countedLetter_56 : decode cX10_countedLetter 56 = .ok (.iload_n 3, 1) := by decide +kernel
theorem d_10_countedLetter_57 : decode cX10_countedLetter 57 = .ok (.i2l, 1) := by decide +kernel
theorem d_10_countedLetter_58 : decode cX10_countedLetter 58 = .ok (.lconst 0, 1) := by decide +kernel
theorem d_10_countedLetter_59 : decode cX10_countedLetter 59 = .ok (.aload_n 0, 1) := by decide +kernel
theorem d_10_countedLetter_60 : decode cX10_countedLetter 60 = .ok (.getfield 7, 3) := by decide +kernel
theorem d_10_countedLetter_63 : decode cX10_countedLetter 63 = .ok (.sipush 766, 3) := by decide +kernel
theorem d_10_countedLetter_66 : decode cX10_countedLetter 66 = .ok (.bipush 17, 2) := by decide +kernel
theorem d_10_countedLetter_68 : decode cX10_countedLetter 68 = .ok (.iload_n 1, 1) := by decide +kernel
theorem d_10_countedLetter_69 : decode cX10_countedLetter 69 = .ok (.imul, 1) := by decide +kernel
theorem d_10_countedLetter_70 : decode cX10_countedLetter 70 = .ok (.iadd, 1) := by decide +kernel
theorem d_10_countedLetter_71 : decode cX10_countedLetter 71 = .ok (.iaload, 1) := by decide +kernel
theorem d_10_countedLetter_72 : decode cX10_countedLetter 72 = .ok (.i2l, 1) := by decide +kernel
theorem d_10_countedLetter_73 : decode cX10_countedLetter 73 = .ok (.lconst 1, 1) := by decide +kernel
theorem d_10_countedLetter_74 : decode cX10_countedLetter 74 = .ok (.lsub, 1) := by decide +kernel
theorem d_10_countedLetter_75 : decode cX10_countedLetter 75 = .ok (.invokestatic 47, 3) := by decide +kernel
theorem d_10_countedLetter_78 : decode cX10_countedLetter 78 = .ok (.ifCond .eq 7, 3) := by decide +kernel
theorem d_10_countedLetter_81 : decode cX10_countedLetter 81 = .ok (.iconst 0, 1) := by decide +kernel
theorem d_10_countedLetter_82 : decode cX10_countedLetter 82 = .ok (.goto 4, 3) := by decide +kernel
theorem d_10_countedLetter_85 : decode cX10_countedLetter 85 = .ok (.iconst 1, 1) := by decide +kernel
theorem d_10_countedLetter_86 : decode cX10_countedLetter 86 = .ok (.putfield 40, 3) := by decide +kernel
theorem d_10_countedLetter_89 : decode cX10_countedLetter 89 = .ok (.aload_n 0, 1) := by decide +kernel
theorem d_10_countedLetter_90 : decode cX10_countedLetter 90 = .ok (.getfield 40, 3) := by decide +kernel
theorem d_10_countedLetter_93 : decode cX10_countedLetter 93 = .ok (.ifCond .ne 27, 3) := by decide +kernel
theorem d_10_countedLetter_96 : decode cX10_countedLetter 96 = .ok (.bipush 97, 2) := by decide +kernel
theorem d_10_countedLetter_98 : decode cX10_countedLetter 98 = .ok (.aload_n 0, 1) := by decide +kernel
theorem d_10_countedLetter_99 : decode cX10_countedLetter 99 = .ok (.getfield 7, 3) := by decide +kernel
theorem d_10_countedLetter_102 : decode cX10_countedLetter 102 = .ok (.sipush 766, 3) := by decide +kernel
theorem d_10_countedLetter_105 : decode cX10_countedLetter 105 = .ok (.bipush 17, 2) := by decide +kernel
theorem d_10_countedLetter_107 : decode cX10_countedLetter 107 = .ok (.iload_n 1, 1) := by decide +kernel
theorem d_10_countedLetter_108 : decode cX10_countedLetter 108 = .ok (.imul, 1) := by decide +kernel
theorem d_10_countedLetter_109 : decode cX10_countedLetter 109 = .ok (.iadd, 1) := by decide +kernel
theorem d_10_countedLetter_110 : decode cX10_countedLetter 110 = .ok (.iconst 1, 1) := by decide +kernel
theorem d_10_countedLetter_111 : decode cX10_countedLetter 111 = .ok (.iadd, 1) := by decide +kernel
theorem d_10_countedLetter_112 : decode cX10_countedLetter 112 = .ok (.iload_n 3, 1) := by decide +kernel
theorem d_10_countedLetter_113 : decode cX10_countedLetter 113 = .ok (.iadd, 1) := by decide +kernel
theorem d_10_countedLetter_114 : decode cX10_countedLetter 114 = .ok (.iaload, 1) := by decide +kernel
theorem d_10_countedLetter_115 : decode cX10_countedLetter 115 = .ok (.iadd, 1) := by decide +kernel
theorem d_10_countedLetter_116 : decode cX10_countedLetter 116 = .ok (.i2c, 1) := by decide +kernel
theorem d_10_countedLetter_117 : decode cX10_countedLetter 117 = .ok (.goto 5, 3) := by decide +kernel
theorem d_10_countedLetter_120 : decode cX10_countedLetter 120 = .ok (.bipush 97, 2) := by decide +kernel
theorem d_10_countedLetter_122 : decode cX10_countedLetter 122 = .ok (.ireturn, 1) := by decide +kernel
theorem d_10_isIrregular_0 : decode cX10_isIrregular 0 = .ok (.aload_n 0, 1) := by decide +kernel
theorem d_10_isIrregular_1 : decode cX10_isIrregular 1 = .ok (.aload_n 0, 1) := by decide +kernel
theorem d_10_isIrregular_2 : decode cX10_isIrregular 2 = .ok (.iload_n 1, 1) := by decide +kernel
theorem d_10_isIrregular_3 : decode cX10_isIrregular 3 = .ok (.invokevirtual 92, 3) := by decide +kernel
theorem d_10_isIrregular_6 : decode cX10_isIrregular 6 = .ok (.ifCond .eq 7, 3) := by decide +kernel
theorem d_10_isIrregular_9 : decode cX10_isIrregular 9 = .ok (.iconst 0, 1) := by decide +kernel
theorem d_10_isIrregular_10 : decode cX10_isIrregular 10 = .ok (.goto 4, 3) := by decide +kernel
theorem d_10_isIrregular_13 : decode cX10_isIrregular 13 = .ok (.iconst 1, 1) := by decide +kernel
theorem d_10_isIrregular_14 : decode cX10_isIrregular 14 = .ok (.putfield 40, 3) := by decide +kernel
theorem d_10_isIrregular_17 : decode cX10_isIrregular 17 = .ok (.aload_n 0, 1) := by decide +kernel
theorem d_10_isIrregular_18 : decode cX10_isIrregular 18 = .ok (.getfield 40, 3) := by decide +kernel
theorem d_10_isIrregular_21 : decode cX10_isIrregular 21 = .ok (.ifCond .ne 27, 3) := by decide +kernel
theorem d_10_isIrregular_24 : decode cX10_isIrregular 24 = .ok (.aload_n 0, 1) := by decide +kernel
theorem d_10_isIrregular_25 : decode cX10_isIrregular 25 = .ok (.aload_n 0, 1) := by decide +kernel
theorem d_10_isIrregular_26 : decode cX10_isIrregular 26 = .ok (.getfield 7, 3) := by decide +kernel
theorem d_10_isIrregular_29 : decode cX10_isIrregular 29 = .ok (.sipush 766, 3) := by decide +kernel
theorem d_10_isIrregular_32 : decode cX10_isIrregular 32 = .ok (.bipush 17, 2) := by decide +kernel
theorem d_10_isIrregular_34 : decode cX10_isIrregular 34 = .ok (.iload_n 1, 1) := by decide +kernel
theorem d_10_isIrregular_35 : decode cX10_isIrregular 35 = .ok (.imul, 1) := by decide +kernel
theorem d_10_isIrregular_36 : decode cX10_isIrregular 36 = .ok (.iadd, 1) := by decide +kernel
theorem d_10_isIrregular_37 : decode cX10_isIrregular 37 = .ok (.invokevirtual 66, 3) := by decide +kernel
theorem d_10_isIrregular_40 : decode cX10_isIrregular 40 = .ok (.iconst (-1), 1) := by decide +kernel
theorem d_10_isIrregular_41 : decode cX10_isIrregular 41 = .ok (.if_icmp .eq 7, 3) := by decide +kernel
theorem d_10_isIrregular_44 : decode cX10_isIrregular 44 = .ok (.iconst 1, 1) := by decide +kernel
theorem d_10_isIrregular_45 : decode cX10_isIrregular 45 = .ok (.goto 4, 3) := by decide +kernel
theorem d_10_isIrregular_48 : decode cX10_isIrregular 48 = .ok (.iconst 0, 1) := by decide +kernel
theorem d_10_isIrregular_49 : decode cX10_isIrregular 49 = .ok (.ireturn, 1) := by decide +kernel
theorem d_10_dieFor_0 : decode cX10_dieFor 0 = .ok (.aload_n 0, 1) := by decide +kernel
theorem d_10_dieFor_1 : decode cX10_dieFor 1 = .ok (.iload_n 1, 1) := by decide +kernel
theorem d_10_dieFor_2 : decode cX10_dieFor 2 = .ok (.invokevirtual 92, 3) := by decide +kernel
theorem d_10_dieFor_5 : decode cX10_dieFor 5 = .ok (.ifCond .ne 9, 3) := by decide +kernel
theorem d_10_dieFor_8 : decode cX10_dieFor 8 = .ok (.aload_n 0, 1) := by decide +kernel
theorem d_10_dieFor_9 : decode cX10_dieFor 9 = .ok (.iconst 1, 1) := by decide +kernel
theorem d_10_dieFor_10 : decode cX10_dieFor 10 = .ok (.invokevirtual 95, 3) := by decide +kernel
theorem d_10_dieFor_13 : decode cX10_dieFor 13 = .ok (.ireturn, 1) := by decide +kernel
theorem d_10_dieFor_14 : decode cX10_dieFor 14 = .ok (.aload_n 0, 1) := by decide +kernel
theorem d_10_dieFor_15 : decode cX10_dieFor 15 = .ok (.aload_n 0, 1) := by decide +kernel
theorem d_10_dieFor_16 : decode cX10_dieFor 16 = .ok (.aload_n 0, 1) := by decide +kernel
theorem d_10_dieFor_17 : decode cX10_dieFor 17 = .ok (.getfield 7, 3) := by decide +kernel
theorem d_10_dieFor_20 : decode cX10_dieFor 20 = .ok (.sipush 766, 3) := by decide +kernel
theorem d_10_dieFor_23 : decode cX10_dieFor 23 = .ok (.bipush 17, 2) := by decide +kernel
theorem d_10_dieFor_25 : decode cX10_dieFor 25 = .ok (.iload_n 1, 1) := by decide +kernel
theorem d_10_dieFor_26 : decode cX10_dieFor 26 = .ok (.imul, 1) := by decide +kernel
theorem d_10_dieFor_27 : decode cX10_dieFor 27 = .ok (.iadd, 1) := by decide +kernel
theorem d_10_dieFor_28 : decode cX10_dieFor 28 = .ok (.invokevirtual 66, 3) := by decide +kernel
theorem d_10_dieFor_31 : decode cX10_dieFor 31 = .ok (.iconst (-1), 1) := by decide +kernel
theorem d_10_dieFor_32 : decode cX10_dieFor 32 = .ok (.if_icmp .ne 22, 3) := by decide +kernel
theorem d_10_dieFor_35 : decode cX10_dieFor 35 = .ok (.aload_n 0, 1) := by decide +kernel
theorem d_10_dieFor_36 : decode cX10_dieFor 36 = .ok (.aload_n 0, 1) := by decide +kernel
theorem d_10_dieFor_37 : decode cX10_dieFor 37 = .ok (.getfield 7, 3) := by decide +kernel
theorem d_10_dieFor_40 : decode cX10_dieFor 40 = .ok (.sipush 766, 3) := by decide +kernel
theorem d_10_dieFor_43 : decode cX10_dieFor 43 = .ok (.bipush 17, 2) := by decide +kernel
theorem d_10_dieFor_45 : decode cX10_dieFor 45 = .ok (.iload_n 1, 1) := by decide +kernel
theorem d_10_dieFor_46 : decode cX10_dieFor 46 = .ok (.imul, 1) := by decide +kernel
theorem d_10_dieFor_47 : decode cX10_dieFor 47 = .ok (.iadd, 1) := by decide +kernel
theorem d_10_dieFor_48 : decode cX10_dieFor 48 = .ok (.invokevirtual 74, 3) := by decide +kernel
theorem d_10_dieFor_51 : decode cX10_dieFor 51 = .ok (.goto 4, 3) := by decide +kernel
theorem d_10_dieFor_54 : decode cX10_dieFor 54 = .ok (.iconst (-1), 1) := by decide +kernel
theorem d_10_dieFor_55 : decode cX10_dieFor 55 = .ok (.invokevirtual 149, 3) := by decide +kernel
theorem d_10_dieFor_58 : decode cX10_dieFor 58 = .ok (.ireturn, 1) := by decide +kernel
theorem d_10_ambiguousNouns_0 : decode cX10_ambiguousNouns 0 = .ok (.aload_n 0, 1) := by decide +kernel
theorem d_10_ambiguousNouns_1 : decode cX10_ambiguousNouns 1 = .ok (.iconst 0, 1) := by decide +kernel
theorem d_10_ambiguousNouns_2 : decode cX10_ambiguousNouns 2 = .ok (.putfield 40, 3) := by decide +kernel
theorem d_10_ambiguousNouns_5 : decode cX10_ambiguousNouns 5 = .ok (.iconst 0, 1) := by decide +kernel
theorem d_10_ambiguousNouns_6 : decode cX10_ambiguousNouns 6 = .ok (.istore_n 1, 1) := by decide +kernel
theorem d_10_ambiguousNouns_7 : decode cX10_ambiguousNouns 7 = .ok (.iconst 0, 1) := by decide +kernel
theorem d_10_ambiguousNouns_8 : decode cX10_ambiguousNouns 8 = .ok (.istore_n 2, 1) := by decide +kernel
theorem d_10_ambiguousNouns_9 : decode cX10_ambiguousNouns 9 = .ok (.iload_n 2, 1) := by decide +kernel
theorem d_10_ambiguousNouns_10 : decode cX10_ambiguousNouns 10 = .ok (.aload_n 0, 1) := by decide +kernel
theorem d_10_ambiguousNouns_11 : decode cX10_ambiguousNouns 11 = .ok (.getfield 7, 3) := by decide +kernel
theorem d_10_ambiguousNouns_14 : decode cX10_ambiguousNouns 14 = .ok (.iconst 2, 1) := by decide +kernel
theorem d_10_ambiguousNouns_15 : decode cX10_ambiguousNouns 15 = .ok (.iaload, 1) := by decide +kernel
theorem d_10_ambiguousNouns_16 : decode cX10_ambiguousNouns 16 = .ok (.if_icmp .ge 99, 3) := by decide +kernel
theorem d_10_ambiguousNouns_19 : decode cX10_ambiguousNouns 19 = .ok (.iconst 0, 1) := by decide +kernel
theorem d_10_ambiguousNouns_20 : decode cX10_ambiguousNouns 20 = .ok (.istore_n 3, 1) := by decide +kernel
theorem d_10_ambiguousNouns_21 : decode cX10_ambiguousNouns 21 = .ok (.aload_n 0, 1) := by decide +kernel
theorem d_10_ambiguousNouns_22 : decode cX10_ambiguousNouns 22 = .ok (.iload_n 2, 1) := by decide +kernel
theorem d_10_ambiguousNouns_23 : decode cX10_ambiguousNouns 23 = .ok (.invokevirtual 85, 3) := by decide +kernel
theorem d_10_ambiguousNouns_26 : decode cX10_ambiguousNouns 26 = .ok (.aload_n 0, 1) := by decide +kernel
theorem d_10_ambiguousNouns_27 : decode cX10_ambiguousNouns 27 = .ok (.getfield 22, 3) := by decide +kernel
theorem d_10_ambiguousNouns_30 : decode cX10_ambiguousNouns 30 = .ok (.iconst 0, 1) := by decide +kernel
theorem d_10_ambiguousNouns_31 : decode cX10_ambiguousNouns 31 = .ok (.aload_n 0, 1) := by decide +kernel
theorem d_10_ambiguousNouns_32 : decode cX10_ambiguousNouns 32 = .ok (.getfield 34, 3) := by decide +kernel
theorem d_10_ambiguousNouns_35 : decode cX10_ambiguousNouns 35 = .ok (.iconst 0, 1) := by decide +kernel
theorem d_10_ambiguousNouns_36 : decode cX10_ambiguousNouns 36 = .ok (.invokestatic 70, 3) := by decide +kernel
theorem d_10_ambiguousNouns_39 : decode cX10_ambiguousNouns 39 = .ok (.iconst 0, 1) := by decide +kernel
theorem d_10_ambiguousNouns_40 : decode cX10_ambiguousNouns 40 = .ok (.istore 4, 2) := by decide +kernel
theorem d_10_ambiguousNouns_42 : decode cX10_ambiguousNouns 42 = .ok (.iload 4, 2) := by decide +kernel
theorem d_10_ambiguousNouns_44 : decode cX10_ambiguousNouns 44 = .ok (.aload_n 0, 1) := by decide +kernel
theorem d_10_ambiguousNouns_45 : decode cX10_ambiguousNouns 45 = .ok (.getfield 7, 3) := by decide +kernel
theorem d_10_ambiguousNouns_48 : decode cX10_ambiguousNouns 48 = .ok (.iconst 2, 1) := by decide +kernel
theorem d_10_ambiguousNouns_49 : decode cX10_ambiguousNouns 49 = .ok (.iaload, 1) := by decide +kernel
theorem d_10_ambiguousNouns_50 : decode cX10_ambiguousNouns 50 = .ok (.if_icmp .ge 47, 3) := by decide +kernel
theorem d_10_ambiguousNouns_53 : decode cX10_ambiguousNouns 53 = .ok (.aload_n 0, 1) := by decide +kernel
theorem d_10_ambiguousNouns_54 : decode cX10_ambiguousNouns 54 = .ok (.iload 4, 2) := by decide +kernel
theorem d_10_ambiguousNouns_56 : decode cX10_ambiguousNouns 56 = .ok (.invokevirtual 85, 3) := by decide +kernel
theorem d_10_ambiguousNouns_59 : decode cX10_ambiguousNouns 59 = .ok (.iload_n 3, 1) := by decide +kernel
theorem d_10_ambiguousNouns_60 : decode cX10_ambiguousNouns 60 = .ok (.ifCond .ne 25, 3) := by decide +kernel
theorem d_10_ambiguousNouns_63 : decode cX10_ambiguousNouns 63 = .ok (.iload 4, 2) := by decide +kernel
theorem d_10_ambiguousNouns_65 : decode cX10_ambiguousNouns 65 = .ok (.iload_n 2, 1) := by decide +kernel
theorem d_10_ambiguousNouns_66 : decode cX10_ambiguousNouns 66 = .ok (.if_icmp .eq 23, 3) := by decide +kernel
theorem d_10_ambiguousNouns_69 : decode cX10_ambiguousNouns 69 = .ok (.aload_n 0, 1) := by decide +kernel
theorem d_10_ambiguousNouns_70 : decode cX10_ambiguousNouns 70 = .ok (.getfield 22, 3) := by decide +kernel
theorem d_10_ambiguousNouns_73 : decode cX10_ambiguousNouns 73 = .ok (.iconst 0, 1) := by decide +kernel
theorem d_10_ambiguousNouns_74 : decode cX10_ambiguousNouns 74 = .ok (.aload_n 0, 1) := by decide +kernel
theorem d_10_ambiguousNouns_75 : decode cX10_ambiguousNouns 75 = .ok (.getfield 34, 3) := by decide +kernel
theorem d_10_ambiguousNouns_78 : decode cX10_ambiguousNouns 78 = .ok (.iconst 0, 1) := by decide +kernel
theorem d_10_ambiguousNouns_79 : decode cX10_ambiguousNouns 79 = .ok (.invokestatic 59, 3) := by decide +kernel
theorem d_10_ambiguousNouns_82 : decode cX10_ambiguousNouns 82 = .ok (.ifCond .eq 7, 3) := by decide +kernel
theorem d_10_ambiguousNouns_85 : decode cX10_ambiguousNouns 85 = .ok (.iconst 1, 1) := by decide +kernel
theorem d_10_ambiguousNouns_86 : decode cX10_ambiguousNouns 86 = .ok (.goto 4, 3) := by decide +kernel
theorem d_10_ambiguousNouns_89 : decode cX10_ambiguousNouns 89 = .ok (.iconst 0, 1) := by decide +kernel
theorem d_10_ambiguousNouns_90 : decode cX10_ambiguousNouns 90 = .ok (.istore_n 3, 1) := by decide +kernel
theorem d_10_ambiguousNouns_91 : decode cX10_ambiguousNouns 91 = .ok (.iinc 4 1, 3) := by decide +kernel
theorem d_10_ambiguousNouns_94 : decode cX10_ambiguousNouns 94 = .ok (.goto (-52), 3) := by decide +kernel
theorem d_10_ambiguousNouns_97 : decode cX10_ambiguousNouns 97 = .ok (.iload_n 1, 1) := by decide +kernel
theorem d_10_ambiguousNouns_98 : decode cX10_ambiguousNouns 98 = .ok (.iload_n 3, 1) := by decide +kernel
theorem d_10_ambiguousNouns_99 : decode cX10_ambiguousNouns 99 = .ok (.ifCond .eq 7, 3) := by decide +kernel
theorem d_10_ambiguousNouns_102 : decode cX10_ambiguousNouns 102 = .ok (.iconst 1, 1) := by decide +kernel
theorem d_10_ambiguousNouns_103 : decode cX10_ambiguousNouns 103 = .ok (.goto 4, 3) := by decide +kernel
theorem d_10_ambiguousNouns_106 : decode cX10_ambiguousNouns 106 = .ok (.iconst 0, 1) := by decide +kernel
theorem d_10_ambiguousNouns_107 : decode cX10_ambiguousNouns 107 = .ok (.iadd, 1) := by decide +kernel
theorem d_10_ambiguousNouns_108 : decode cX10_ambiguousNouns 108 = .ok (.istore_n 1, 1) := by decide +kernel
theorem d_10_ambiguousNouns_109 : decode cX10_ambiguousNouns 109 = .ok (.iinc 2 1, 3) := by decide +kernel
theorem d_10_ambiguousNouns_112 : decode cX10_ambiguousNouns 112 = .ok (.goto (-103), 3) := by decide +kernel
theorem d_10_ambiguousNouns_115 : decode cX10_ambiguousNouns 115 = .ok (.iload_n 1, 1) := by decide +kernel
theorem d_10_ambiguousNouns_116 : decode cX10_ambiguousNouns 116 = .ok (.ireturn, 1) := by decide +kernel
theorem d_10_isWord_0 : decode cX10_isWord 0 = .ok (.aload_n 0, 1) := by decide +kernel
theorem d_10_isWord_1 : decode cX10_isWord 1 = .ok (.iconst 0, 1) := by decide +kernel
theorem d_10_isWord_2 : decode cX10_isWord 2 = .ok (.putfield 123, 3) := by decide +kernel
theorem d_10_isWord_5 : decode cX10_isWord 5 = .ok (.aload_n 0, 1) := by decide +kernel
theorem d_10_isWord_6 : decode cX10_isWord 6 = .ok (.aload_n 0, 1) := by decide +kernel
theorem d_10_isWord_7 : decode cX10_isWord 7 = .ok (.getfield 28, 3) := by decide +kernel
theorem d_10_isWord_10 : decode cX10_isWord 10 = .ok (.bipush 12, 2) := by decide +kernel
theorem d_10_isWord_12 : decode cX10_isWord 12 = .ok (.invokevirtual 139, 3) := by decide +kernel
theorem d_10_isWord_15 : decode cX10_isWord 15 = .ok (.ifCond .le 18, 3) := by decide +kernel
theorem d_10_isWord_18 : decode cX10_isWord 18 = .ok (.aload_n 0, 1) := by decide +kernel
theorem d_10_isWord_19 : decode cX10_isWord 19 = .ok (.getfield 123, 3) := by decide +kernel
theorem d_10_isWord_22 : decode cX10_isWord 22 = .ok (.aload_n 0, 1) := by decide +kernel
theorem d_10_isWord_23 : decode cX10_isWord 23 = .ok (.getfield 120, 3) := by decide +kernel
theorem d_10_isWord_26 : decode cX10_isWord 26 = .ok (.if_icmp .ne 7, 3) := by decide +kernel
theorem d_10_isWord_29 : decode cX10_isWord 29 = .ok (.iconst 1, 1) := by decide +kernel
theorem d_10_isWord_30 : decode cX10_isWord 30 = .ok (.goto 4, 3) := by decide +kernel
theorem d_10_isWord_33 : decode cX10_isWord 33 = .ok (.iconst 0, 1) := by decide +kernel
theorem d_10_isWord_34 : decode cX10_isWord 34 = .ok (.ireturn, 1) := by decide +kernel
theorem d_10_recalls_0 : decode cX10_recalls 0 = .ok (.aload_n 0, 1) := by decide +kernel
theorem d_10_recalls_1 : decode cX10_recalls 1 = .ok (.invokevirtual 180, 3) := by decide +kernel
theorem d_10_recalls_4 : decode cX10_recalls 4 = .ok (.ifCond .ne 9, 3) := by decide +kernel
theorem d_10_recalls_7 : decode cX10_recalls 7 = .ok (.aload_n 0, 1) := by decide +kernel
theorem d_10_recalls_8 : decode cX10_recalls 8 = .ok (.iconst 1, 1) := by decide +kernel
theorem d_10_recalls_9 : decode cX10_recalls 9 = .ok (.invokevirtual 95, 3) := by decide +kernel
theorem d_10_recalls_12 : decode cX10_recalls 12 = .ok (.ireturn, 1) := by decide +kernel
theorem d_10_recalls_13 : decode cX10_recalls 13 = .ok (.aload_n 0, 1) := by decide +kernel
theorem d_10_recalls_14 : decode cX10_recalls 14 = .ok (.iconst 0, 1) := by decide +kernel
theorem d_10_recalls_15 : decode cX10_recalls 15 = .ok (.putfield 40, 3) := by decide +kernel
theorem d_10_recalls_18 : decode cX10_recalls 18 = .ok (.iconst 0, 1) := by decide +kernel
theorem d_10_recalls_19 : decode cX10_recalls 19 = .ok (.istore_n 1, 1) := by decide +kernel
theorem d_10_recalls_20 : decode cX10_recalls 20 = .ok (.iload_n 1, 1) := by decide +kernel
theorem d_10_recalls_21 : decode cX10_recalls 21 = .ok (.aload_n 0, 1) := by decide +kernel
theorem d_10_recalls_22 : decode cX10_recalls 22 = .ok (.getfield 7, 3) := by decide +kernel
theorem d_10_recalls_25 : decode cX10_recalls 25 = .ok (.iconst 2, 1) := by decide +kernel
theorem d_10_recalls_26 : decode cX10_recalls 26 = .ok (.iaload, 1) := by decide +kernel
theorem d_10_recalls_27 : decode cX10_recalls 27 = .ok (.if_icmp .ge 32, 3) := by decide +kernel
theorem d_10_recalls_30 : decode cX10_recalls 30 = .ok (.aload_n 0, 1) := by decide +kernel
theorem d_10_recalls_31 : decode cX10_recalls 31 = .ok (.iload_n 1, 1) := by decide +kernel
theorem d_10_recalls_32 : decode cX10_recalls 32 = .ok (.invokevirtual 85, 3) := by decide +kernel
theorem d_10_recalls_35 : decode cX10_recalls 35 = .ok (.aload_n 0, 1) := by decide +kernel
theorem d_10_recalls_36 : decode cX10_recalls 36 = .ok (.getfield 22, 3) := by decide +kernel
theorem d_10_recalls_39 : decode cX10_recalls 39 = .ok (.iconst 0, 1) := by decide +kernel
theorem d_10_recalls_40 : decode cX10_recalls 40 = .ok (.aload_n 0, 1) := by decide +kernel
theorem d_10_recalls_41 : decode cX10_recalls 41 = .ok (.getfield 28, 3) := by decide +kernel
theorem d_10_recalls_44 : decode cX10_recalls 44 = .ok (.iconst 0, 1) := by decide +kernel
theorem d_10_recalls_45 : decode cX10_recalls 45 = .ok (.invokestatic 59, 3) := by decide +kernel
theorem d_10_recalls_48 : decode cX10_recalls 48 = .ok (.ifCond .eq 5, 3) := by decide +kernel
theorem d_10_recalls_51 : decode cX10_recalls 51 = .ok (.iload_n 1, 1) := by decide +kernel
theorem d_10_recalls_52 : decode cX10_recalls 52 = .ok (.ireturn, 1) := by decide +kernel
theorem d_10_recalls_53 : decode cX10_recalls 53 = .ok (.iinc 1 1, 3) := by decide +kernel
theorem d_10_recalls_56 : decode cX10_recalls 56 = .ok (.goto (-36), 3) := by decide +kernel
theorem d_10_recalls_59 : decode cX10_recalls 59 = .ok (.iconst (-1), 1) := by decide +kernel
theorem d_10_recalls_60 : decode cX10_recalls 60 = .ok (.ireturn, 1) := by decide +kernel
theorem d_10_recallByStriking_0 : decode cX10_recallByStriking 0 = .ok (.aload_n 0, 1) := by decide +kernel
theorem d_10_recallByStriking_1 : decode cX10_recallByStriking 1 = .ok (.invokevirtual 183, 3) := by decide +kernel
theorem d_10_recallByStriking_4 : decode cX10_recallByStriking 4 = .ok (.ireturn, 1) := by decide +kernel
theorem d_10_recallByReversing_0 : decode cX10_recallByReversing 0 = .ok (.aload_n 0, 1) := by decide +kernel
theorem d_10_recallByReversing_1 : decode cX10_recallByReversing 1 = .ok (.invokevirtual 183, 3) := by decide +kernel
theorem d_10_recallByReversing_4 : decode cX10_recallByReversing 4 = .ok (.ireturn, 1) := by decide +kernel
theorem d_10_finds_0 : decode cX10_finds 0 = .ok (.aload_n 0, 1) := by decide +kernel
theorem d_10_finds_1 : decode cX10_finds 1 = .ok (.aload_n 1, 1) := by decide +kernel
theorem d_10_finds_2 : decode cX10_finds 2 = .ok (.iload_n 2, 1) := by decide +kernel
theorem d_10_finds_3 : decode cX10_finds 3 = .ok (.invokevirtual 81, 3) := by decide +kernel
theorem d_10_finds_6 : decode cX10_finds 6 = .ok (.aload_n 0, 1) := by decide +kernel
theorem d_10_finds_7 : decode cX10_finds 7 = .ok (.getfield 22, 3) := by decide +kernel
theorem d_10_finds_10 : decode cX10_finds 10 = .ok (.iconst 0, 1) := by decide +kernel
theorem d_10_finds_11 : decode cX10_finds 11 = .ok (.aload_n 0, 1) := by decide +kernel
theorem d_10_finds_12 : decode cX10_finds 12 = .ok (.getfield 28, 3) := by decide +kernel
theorem d_10_finds_15 : decode cX10_finds 15 = .ok (.iconst 0, 1) := by decide +kernel
theorem d_10_finds_16 : decode cX10_finds 16 = .ok (.invokestatic 59, 3) := by decide +kernel
theorem d_10_finds_19 : decode cX10_finds 19 = .ok (.ifCond .eq 21, 3) := by decide +kernel
theorem d_10_finds_22 : decode cX10_finds 22 = .ok (.aload_n 1, 1) := by decide +kernel
theorem d_10_finds_23 : decode cX10_finds 23 = .ok (.iload_n 2, 1) := by decide +kernel
theorem d_10_finds_24 : decode cX10_finds 24 = .ok (.iaload, 1) := by decide +kernel
theorem d_10_finds_25 : decode cX10_finds 25 = .ok (.i2l, 1) := by decide +kernel
theorem d_10_finds_26 : decode cX10_finds 26 = .ok (.lconst 1, 1) := by decide +kernel
theorem d_10_finds_27 : decode cX10_finds 27 = .ok (.ldc2_w 186, 3) := by decide +kernel
theorem d_10_finds_30 : decode cX10_finds 30 = .ok (.invokestatic 47, 3) := by decide +kernel
theorem d_10_finds_33 : decode cX10_finds 33 = .ok (.ifCond .eq 7, 3) := by decide +kernel
theorem d_10_finds_36 : decode cX10_finds 36 = .ok (.iconst 1, 1) := by decide +kernel
theorem d_10_finds_37 : decode cX10_finds 37 = .ok (.goto 4, 3) := by decide +kernel
theorem d_10_finds_40 : decode cX10_finds 40 = .ok (.iconst 0, 1) := by decide +kernel
theorem d_10_finds_41 : decode cX10_finds 41 = .ok (.istore_n 3, 1) := by decide +kernel
theorem d_10_finds_42 : decode cX10_finds 42 = .ok (.iconst 0, 1) := by decide +kernel
theorem d_10_finds_43 : decode cX10_finds 43 = .ok (.istore 4, 2) := by decide +kernel
theorem d_10_finds_45 : decode cX10_finds 45 = .ok (.iload 4, 2) := by decide +kernel
theorem d_10_finds_47 : decode cX10_finds 47 = .ok (.aload_n 0, 1) := by decide +kernel
theorem d_10_finds_48 : decode cX10_finds 48 = .ok (.getfield 188, 3) := by decide +kernel
theorem d_10_finds_51 : decode cX10_finds 51 = .ok (.if_icmp .ge 36, 3) := by decide +kernel
theorem d_10_finds_54 : decode cX10_finds 54 = .ok (.iload_n 3, 1) := by decide +kernel
theorem d_10_finds_55 : decode cX10_finds 55 = .ok (.ifCond .eq 32, 3) := by decide +kernel
theorem d_10_finds_58 : decode cX10_finds 58 = .ok (.aload_n 1, 1) := by decide +kernel
theorem d_10_finds_59 : decode cX10_finds 59 = .ok (.iload_n 2, 1) := by decide +kernel
theorem d_10_finds_60 : decode cX10_finds 60 = .ok (.aload_n 0, 1) := by decide +kernel
theorem d_10_finds_61 : decode cX10_finds 61 = .ok (.getfield 37, 3) := by decide +kernel
theorem d_10_finds_64 : decode cX10_finds 64 = .ok (.bipush 17, 2) := by decide +kernel
theorem d_10_finds_66 : decode cX10_finds 66 = .ok (.iload 4, 2) := by decide +kernel
theorem d_10_finds_68 : decode cX10_finds 68 = .ok (.imul, 1) := by decide +kernel
theorem d_10_finds_69 : decode cX10_finds 69 = .ok (.invokestatic 59, 3) := by decide +kernel
theorem d_10_finds_72 : decode cX10_finds 72 = .ok (.ifCond .ne 7, 3) := by decide +kernel
theorem d_10_finds_75 : decode cX10_finds 75 = .ok (.iconst 1, 1) := by decide +kernel
theorem d_10_finds_76 : decode cX10_finds 76 = .ok (.goto 4, 3) := by decide +kernel
theorem d_10_finds_79 : decode cX10_finds 79 = .ok (.iconst 0, 1) := by decide +kernel
theorem d_10_finds_80 : decode cX10_finds 80 = .ok (.istore_n 3, 1) := by decide +kernel
theorem d_10_finds_81 : decode cX10_finds 81 = .ok (.iinc 4 1, 3) := by decide +kernel
theorem d_10_finds_84 : decode cX10_finds 84 = .ok (.goto (-39), 3) := by decide +kernel
theorem d_10_finds_87 : decode cX10_finds 87 = .ok (.iload_n 3, 1) := by decide +kernel
theorem d_10_finds_88 : decode cX10_finds 88 = .ok (.ifCond .eq 29, 3) := by decide +kernel
theorem d_10_finds_91 : decode cX10_finds 91 = .ok (.aload_n 1, 1) := by decide +kernel
theorem d_10_finds_92 : decode cX10_finds 92 = .ok (.iload_n 2, 1) := by decide +kernel
theorem d_10_finds_93 : decode cX10_finds 93 = .ok (.aload_n 0, 1) := by decide +kernel
theorem d_10_finds_94 : decode cX10_finds 94 = .ok (.getfield 37, 3) := by decide +kernel
theorem d_10_finds_97 : decode cX10_finds 97 = .ok (.bipush 17, 2) := by decide +kernel
theorem d_10_finds_99 : decode cX10_finds 99 = .ok (.aload_n 0, 1) := by decide +kernel
theorem d_10_finds_100 : decode cX10_finds 100 = .ok (.getfield 188, 3) := by decide +kernel
theorem d_10_finds_103 : decode cX10_finds 103 = .ok (.imul, 1) := by decide +kernel
theorem d_10_finds_104 : decode cX10_finds 104 = .ok (.invokestatic 70, 3) := by decide +kernel
theorem d_10_finds_107 : decode cX10_finds 107 = .ok (.aload_n 0, 1) := by decide +kernel
theorem d_10_finds_108 : decode cX10_finds 108 = .ok (.dup, 1) := by decide +kernel
theorem d_10_finds_109 : decode cX10_finds 109 = .ok (.getfield 188, 3) := by decide +kernel
theorem d_10_finds_112 : decode cX10_finds 112 = .ok (.iconst 1, 1) := by decide +kernel
theorem d_10_finds_113 : decode cX10_finds 113 = .ok (.iadd, 1) := by decide +kernel
theorem d_10_finds_114 : decode cX10_finds 114 = .ok (.putfield 188, 3) := by decide +kernel
theorem d_10_finds_117 : decode cX10_finds 117 = .ok (.return_, 1) := by decide +kernel
theorem d_10_possibleNouns_0 : decode cX10_possibleNouns 0 = .ok (.aload_n 0, 1) := by decide +kernel
theorem d_10_possibleNouns_1 : decode cX10_possibleNouns 1 = .ok (.invokevirtual 180, 3) := by decide +kernel
theorem d_10_possibleNouns_4 : decode cX10_possibleNouns 4 = .ok (.ifCond .ne 9, 3) := by decide +kernel
theorem d_10_possibleNouns_7 : decode cX10_possibleNouns 7 = .ok (.aload_n 0, 1) := by decide +kernel
theorem d_10_possibleNouns_8 : decode cX10_possibleNouns 8 = .ok (.iconst 1, 1) := by decide +kernel
theorem d_10_possibleNouns_9 : decode cX10_possibleNouns 9 = .ok (.invokevirtual 95, 3) := by decide +kernel
theorem d_10_possibleNouns_12 : decode cX10_possibleNouns 12 = .ok (.ireturn, 1) := by decide +kernel
theorem d_10_possibleNouns_13 : decode cX10_possibleNouns 13 = .ok (.aload_n 0, 1) := by decide +kernel
theorem d_10_possibleNouns_14 : decode cX10_possibleNouns 14 = .ok (.iconst 0, 1) := by decide +kernel
theorem d_10_possibleNouns_15 : decode cX10_possibleNouns 15 = .ok (.putfield 188, 3) := by decide +kernel
theorem d_10_possibleNouns_18 : decode cX10_possibleNouns 18 = .ok (.iconst 0, 1) := by decide +kernel
theorem d_10_possibleNouns_19 : decode cX10_possibleNouns 19 = .ok (.istore_n 1, 1) := by decide +kernel
theorem d_10_possibleNouns_20 : decode cX10_possibleNouns 20 = .ok (.iload_n 1, 1) := by decide +kernel
theorem d_10_possibleNouns_21 : decode cX10_possibleNouns 21 = .ok (.aload_n 0, 1) := by decide +kernel
theorem d_10_possibleNouns_22 : decode cX10_possibleNouns 22 = .ok (.getfield 7, 3) := by decide +kernel
theorem d_10_possibleNouns_25 : decode cX10_possibleNouns 25 = .ok (.iconst 1, 1) := by decide +kernel
theorem d_10_possibleNouns_26 : decode cX10_possibleNouns 26 = .ok (.iaload, 1) := by decide +kernel
theorem d_10_possibleNouns_27 : decode cX10_possibleNouns 27 = .ok (.if_icmp .ge 25, 3) := by decide +kernel
theorem d_10_possibleNouns_30 : decode cX10_possibleNouns 30 = .ok (.aload_n 0, 1) := by decide +kernel
theorem d_10_possibleNouns_31 : decode cX10_possibleNouns 31 = .ok (.aload_n 0, 1) := by decide +kernel
theorem d_10_possibleNouns_32 : decode cX10_possibleNouns 32 = .ok (.getfield 7, 3) := by decide +kernel
theorem d_10_possibleNouns_35 : decode cX10_possibleNouns 35 = .ok (.sipush 426, 3) := by decide +kernel
theorem d_10_possibleNouns_38 : decode cX10_possibleNouns 38 = .ok (.bipush 34, 2) := by decide +kernel
theorem d_10_possibleNouns_40 : decode cX10_possibleNouns 40 = .ok (.iload_n 1, 1) := by decide +kernel
theorem d_10_possibleNouns_41 : decode cX10_possibleNouns 41 = .ok (.imul, 1) := by decide +kernel
theorem d_10_possibleNouns_42 : decode cX10_possibleNouns 42 = .ok (.iadd, 1) := by decide +kernel
theorem d_10_possibleNouns_43 : decode cX10_possibleNouns 43 = .ok (.invokevirtual 191, 3) := by decide +kernel
theorem d_10_possibleNouns_46 : decode cX10_possibleNouns 46 = .ok (.iinc 1 1, 3) := by decide +kernel
theorem d_10_possibleNouns_49 : decode cX10_possibleNouns 49 = .ok (.goto (-29), 3) := by decide +kernel
theorem d_10_possibleNouns_52 : decode cX10_possibleNouns 52 = .ok (.iconst 0, 1) := by decide +kernel
theorem d_10_possibleNouns_53 : decode cX10_possibleNouns 53 = .ok (.istore_n 1, 1) := by decide +kernel
theorem d_10_possibleNouns_54 : decode cX10_possibleNouns 54 = .ok (.iload_n 1, 1) := by decide +kernel
theorem d_10_possibleNouns_55 : decode cX10_possibleNouns 55 = .ok (.aload_n 0, 1) := by decide +kernel
theorem d_10_possibleNouns_56 : decode cX10_possibleNouns 56 = .ok (.getfield 7, 3) := by decide +kernel
theorem d_10_possibleNouns_59 : decode cX10_possibleNouns 59 = .ok (.iconst 0, 1) := by decide +kernel
theorem d_10_possibleNouns_60 : decode cX10_possibleNouns 60 = .ok (.iaload, 1) := by decide +kernel
theorem d_10_possibleNouns_61 : decode cX10_possibleNouns 61 = .ok (.if_icmp .ge 73, 3) := by decide +kernel
theorem d_10_possibleNouns_64 : decode cX10_possibleNouns 64 = .ok (.bipush 6, 2) := by decide +kernel
theorem d_10_possibleNouns_66 : decode cX10_possibleNouns 66 = .ok (.bipush 35, 2) := by decide +kernel
theorem d_10_possibleNouns_68 : decode cX10_possibleNouns 68 = .ok (.iload_n 1, 1) := by decide +kernel
theorem d_10_possibleNouns_69 : decode cX10_possibleNouns 69 = .ok (.imul, 1) := by decide +kernel
theorem d_10_possibleNouns_70 : decode cX10_possibleNouns 70 = .ok (.iadd, 1) := by decide +kernel
theorem d_10_possibleNouns_71 : decode cX10_possibleNouns 71 = .ok (.istore_n 2, 1) := by decide +kernel
theorem d_10_possibleNouns_72 : decode cX10_possibleNouns 72 = .ok (.aload_n 0, 1) := by decide +kernel
theorem d_10_possibleNouns_73 : decode cX10_possibleNouns 73 = .ok (.getfield 28, 3) := by decide +kernel
theorem d_10_possibleNouns_76 : decode cX10_possibleNouns 76 = .ok (.iconst 0, 1) := by decide +kernel
theorem d_10_possibleNouns_77 : decode cX10_possibleNouns 77 = .ok (.aload_n 0, 1) := by decide +kernel
theorem d_10_possibleNouns_78 : decode cX10_possibleNouns 78 = .ok (.getfield 7, 3) := by decide +kernel
theorem d_10_possibleNouns_81 : decode cX10_possibleNouns 81 = .ok (.iload_n 2, 1) := by decide +kernel
theorem d_10_possibleNouns_82 : decode cX10_possibleNouns 82 = .ok (.bipush 18, 2) := by decide +kernel
theorem d_10_possibleNouns_84 : decode cX10_possibleNouns 84 = .ok (.iadd, 1) := by decide +kernel
theorem d_10_possibleNouns_85 : decode cX10_possibleNouns 85 = .ok (.invokestatic 51, 3) := by decide +kernel
theorem d_10_possibleNouns_88 : decode cX10_possibleNouns 88 = .ok (.ifCond .eq 40, 3) := by decide +kernel
theorem d_10_possibleNouns_91 : decode cX10_possibleNouns 91 = .ok (.aload_n 0, 1) := by decide +kernel
theorem d_10_possibleNouns_92 : decode cX10_possibleNouns 92 = .ok (.getfield 28, 3) := by decide +kernel
theorem d_10_possibleNouns_95 : decode cX10_possibleNouns 95 = .ok (.iconst 0, 1) := by decide +kernel
theorem d_10_possibleNouns_96 : decode cX10_possibleNouns 96 = .ok (.aload_n 0, 1) := by decide +kernel
theorem d_10_possibleNouns_97 : decode cX10_possibleNouns 97 = .ok (.getfield 7, 3) := by decide +kernel
theorem d_10_possibleNouns_100 : decode cX10_possibleNouns 100 = .ok (.iload_n 2, 1) := by decide +kernel
theorem d_10_possibleNouns_101 : decode cX10_possibleNouns 101 = .ok (.bipush 18, 2) := by decide +kernel
theorem d_10_possibleNouns_103 : decode cX10_possibleNouns 103 = .ok (.iadd, 1) := by decide +kernel
theorem d_10_possibleNouns_104 : decode cX10_possibleNouns 104 = .ok (.iaload, 1) := by decide +kernel
theorem d_10_possibleNouns_105 : decode cX10_possibleNouns 105 = .ok (.aload_n 0, 1) := by decide +kernel
theorem d_10_possibleNouns_106 : decode cX10_possibleNouns 106 = .ok (.getfield 7, 3) := by decide +kernel
theorem d_10_possibleNouns_109 : decode cX10_possibleNouns 109 = .ok (.iload_n 2, 1) := by decide +kernel
theorem d_10_possibleNouns_110 : decode cX10_possibleNouns 110 = .ok (.iconst 1, 1) := by decide +kernel
theorem d_10_possibleNouns_111 : decode cX10_possibleNouns 111 = .ok (.iadd, 1) := by decide +kernel
theorem d_10_possibleNouns_112 : decode cX10_possibleNouns 112 = .ok (.aload_n 0, 1) := by decide +kernel
theorem d_10_possibleNouns_113 : decode cX10_possibleNouns 113 = .ok (.getfield 34, 3) := by decide +kernel
theorem d_10_possibleNouns_116 : decode cX10_possibleNouns 116 = .ok (.invokestatic 77, 3) := by decide +kernel
theorem d_10_possibleNouns_119 : decode cX10_possibleNouns 119 = .ok (.aload_n 0, 1) := by decide +kernel
theorem d_10_possibleNouns_120 : decode cX10_possibleNouns 120 = .ok (.aload_n 0, 1) := by decide +kernel
theorem d_10_possibleNouns_121 : decode cX10_possibleNouns 121 = .ok (.getfield 34, 3) := by decide +kernel
theorem d_10_possibleNouns_124 : decode cX10_possibleNouns 124 = .ok (.iconst 0, 1) := by decide +kernel
theorem d_10_possibleNouns_125 : decode cX10_possibleNouns 125 = .ok (.invokevirtual 191, 3) := by decide +kernel
theorem d_10_possibleNouns_128 : decode cX10_possibleNouns 128 = .ok (.iinc 1 1, 3) := by decide +kernel
theorem d_10_possibleNouns_131 : decode cX10_possibleNouns 131 = .ok (.goto (-77), 3) := by decide +kernel
theorem d_10_possibleNouns_134 : decode cX10_possibleNouns 134 = .ok (.aload_n 0, 1) := by decide +kernel
theorem d_10_possibleNouns_135 : decode cX10_possibleNouns 135 = .ok (.aload_n 0, 1) := by decide +kernel
theorem d_10_possibleNouns_136 : decode cX10_possibleNouns 136 = .ok (.getfield 188, 3) := by decide +kernel
theorem d_10_possibleNouns_139 : decode cX10_possibleNouns 139 = .ok (.invokevirtual 149, 3) := by decide +kernel
theorem d_10_possibleNouns_142 : decode cX10_possibleNouns 142 = .ok (.ireturn, 1) := by decide +kernel
theorem d_10_dies_0 : decode cX10_dies 0 = .ok (.aload_n 0, 1) := by decide +kernel
theorem d_10_dies_1 : decode cX10_dies 1 = .ok (.aload_n 0, 1) := by decide +kernel
theorem d_10_dies_2 : decode cX10_dies 2 = .ok (.getfield 7, 3) := by decide +kernel
theorem d_10_dies_5 : decode cX10_dies 5 = .ok (.iconst 0, 1) := by decide +kernel
theorem d_10_dies_6 : decode cX10_dies 6 = .ok (.iaload, 1) := by decide +kernel
theorem d_10_dies_7 : decode cX10_dies 7 = .ok (.invokevirtual 149, 3) := by decide +kernel
theorem d_10_dies_10 : decode cX10_dies 10 = .ok (.ireturn, 1) := by decide +kernel
theorem d_10_irregulars_0 : decode cX10_irregulars 0 = .ok (.aload_n 0, 1) := by decide +kernel
theorem d_10_irregulars_1 : decode cX10_irregulars 1 = .ok (.aload_n 0, 1) := by decide +kernel
theorem d_10_irregulars_2 : decode cX10_irregulars 2 = .ok (.getfield 7, 3) := by decide +kernel
theorem d_10_irregulars_5 : decode cX10_irregulars 5 = .ok (.iconst 1, 1) := by decide +kernel
theorem d_10_irregulars_6 : decode cX10_irregulars 6 = .ok (.iaload, 1) := by decide +kernel
theorem d_10_irregulars_7 : decode cX10_irregulars 7 = .ok (.invokevirtual 149, 3) := by decide +kernel
theorem d_10_irregulars_10 : decode cX10_irregulars 10 = .ok (.ireturn, 1) := by decide +kernel
theorem d_10_fitsOf_0 : decode cX10_fitsOf 0 = .ok (.aload_n 0, 1) := by decide +kernel
theorem d_10_fitsOf_1 : decode cX10_fitsOf 1 = .ok (.iload_n 1, 1) := by decide +kernel
theorem d_10_fitsOf_2 : decode cX10_fitsOf 2 = .ok (.invokevirtual 117, 3) := by decide +kernel
theorem d_10_fitsOf_5 : decode cX10_fitsOf 5 = .ok (.ifCond .ne 9, 3) := by decide +kernel
theorem d_10_fitsOf_8 : decode cX10_fitsOf 8 = .ok (.aload_n 0, 1) := by decide +kernel
theorem d_10_fitsOf_9 : decode cX10_fitsOf 9 = .ok (.iconst 1, 1) := by decide +kernel
theorem d_10_fitsOf_10 : decode cX10_fitsOf 10 = .ok (.invokevirtual 95, 3) := by decide +kernel
theorem d_10_fitsOf_13 : decode cX10_fitsOf 13 = .ok (.ireturn, 1) := by decide +kernel
theorem d_10_fitsOf_14 : decode cX10_fitsOf 14 = .ok (.aload_n 0, 1) := by decide +kernel
theorem d_10_fitsOf_15 : decode cX10_fitsOf 15 = .ok (.iconst 0, 1) := by decide +kernel
theorem d_10_fitsOf_16 : decode cX10_fitsOf 16 = .ok (.putfield 40, 3) := by decide +kernel
theorem d_10_fitsOf_19 : decode cX10_fitsOf 19 = .ok (.iconst 0, 1) := by decide +kernel
theorem d_10_fitsOf_20 : decode cX10_fitsOf 20 = .ok (.istore_n 2, 1) := by decide +kernel
theorem d_10_fitsOf_21 : decode cX10_fitsOf 21 = .ok (.iconst 0, 1) := by decide +kernel
theorem d_10_fitsOf_22 : decode cX10_fitsOf 22 = .ok (.istore_n 3, 1) := by decide +kernel
theorem d_10_fitsOf_23 : decode cX10_fitsOf 23 = .ok (.iload_n 3, 1) := by decide +kernel
theorem d_10_fitsOf_24 : decode cX10_fitsOf 24 = .ok (.aload_n 0, 1) := by decide +kernel
theorem d_10_fitsOf_25 : decode cX10_fitsOf 25 = .ok (.getfield 7, 3) := by decide +kernel
theorem d_10_fitsOf_28 : decode cX10_fitsOf 28 = .ok (.iconst 2, 1) := by decide +kernel
theorem d_10_fitsOf_29 : decode cX10_fitsOf 29 = .ok (.iaload, 1) := by decide +kernel
theorem d_10_fitsOf_30 : decode cX10_fitsOf 30 = .ok (.if_icmp .ge 37, 3) := by decide +kernel
theorem d_10_fitsOf_33 : decode cX10_fitsOf 33 = .ok (.iload_n 2, 1) := by decide +kernel
theorem d_10_fitsOf_34 : decode cX10_fitsOf 34 = .ok (.aload_n 0, 1) := by decide +kernel
theorem d_10_fitsOf_35 : decode cX10_fitsOf 35 = .ok (.iload_n 1, 1) := by decide +kernel
theorem d_10_fitsOf_36 : decode cX10_fitsOf 36 = .ok (.aload_n 0, 1) := by decide +kernel
theorem d_10_fitsOf_37 : decode cX10_fitsOf 37 = .ok (.getfield 7, 3) := by decide +kernel
theorem d_10_fitsOf_40 : decode cX10_fitsOf 40 = .ok (.sipush 766, 3) := by decide +kernel
theorem d_10_fitsOf_43 : decode cX10_fitsOf 43 = .ok (.bipush 17, 2) := by decide +kernel
theorem d_10_fitsOf_45 : decode cX10_fitsOf 45 = .ok (.iload_n 3, 1) := by decide +kernel
theorem d_10_fitsOf_46 : decode cX10_fitsOf 46 = .ok (.imul, 1) := by decide +kernel
theorem d_10_fitsOf_47 : decode cX10_fitsOf 47 = .ok (.iadd, 1) := by decide +kernel
theorem d_10_fitsOf_48 : decode cX10_fitsOf 48 = .ok (.invokevirtual 62, 3) := by decide +kernel
theorem d_10_fitsOf_51 : decode cX10_fitsOf 51 = .ok (.ifCond .eq 7, 3) := by decide +kernel
theorem d_10_fitsOf_54 : decode cX10_fitsOf 54 = .ok (.iconst 1, 1) := by decide +kernel
theorem d_10_fitsOf_55 : decode cX10_fitsOf 55 = .ok (.goto 4, 3) := by decide +kernel
theorem d_10_fitsOf_58 : decode cX10_fitsOf 58 = .ok (.iconst 0, 1) := by decide +kernel
theorem d_10_fitsOf_59 : decode cX10_fitsOf 59 = .ok (.iadd, 1) := by decide +kernel
theorem d_10_fitsOf_60 : decode cX10_fitsOf 60 = .ok (.istore_n 2, 1) := by decide +kernel
theorem d_10_fitsOf_61 : decode cX10_fitsOf 61 = .ok (.iinc 3 1, 3) := by decide +kernel
theorem d_10_fitsOf_64 : decode cX10_fitsOf 64 = .ok (.goto (-41), 3) := by decide +kernel
theorem d_10_fitsOf_67 : decode cX10_fitsOf 67 = .ok (.iload_n 2, 1) := by decide +kernel
theorem d_10_fitsOf_68 : decode cX10_fitsOf 68 = .ok (.ireturn, 1) := by decide +kernel
theorem d_10_coinsOf_0 : decode cX10_coinsOf 0 = .ok (.aload_n 0, 1) := by decide +kernel
theorem d_10_coinsOf_1 : decode cX10_coinsOf 1 = .ok (.iload_n 1, 1) := by decide +kernel
theorem d_10_coinsOf_2 : decode cX10_coinsOf 2 = .ok (.invokevirtual 92, 3) := by decide +kernel
theorem d_10_coinsOf_5 : decode cX10_coinsOf 5 = .ok (.ifCond .eq 15, 3) := by decide +kernel
theorem d_10_coinsOf_8 : decode cX10_coinsOf 8 = .ok (.aload_n 0, 1) := by decide +kernel
theorem d_10_coinsOf_9 : decode cX10_coinsOf 9 = .ok (.aload_n 0, 1) := by decide +kernel
theorem d_10_coinsOf_10 : decode cX10_coinsOf 10 = .ok (.iload_n 1, 1) := by decide +kernel
theorem d_10_coinsOf_11 : decode cX10_coinsOf 11 = .ok (.invokevirtual 107, 3) := by decide +kernel
theorem d_10_coinsOf_14 : decode cX10_coinsOf 14 = .ok (.invokevirtual 149, 3) := by decide +kernel
theorem d_10_coinsOf_17 : decode cX10_coinsOf 17 = .ok (.goto 8, 3) := by decide +kernel
theorem d_10_coinsOf_20 : decode cX10_coinsOf 20 = .ok (.aload_n 0, 1) := by decide +kernel
theorem d_10_coinsOf_21 : decode cX10_coinsOf 21 = .ok (.iconst 1, 1) := by decide +kernel
theorem d_10_coinsOf_22 : decode cX10_coinsOf 22 = .ok (.invokevirtual 95, 3) := by decide +kernel
theorem d_10_coinsOf_25 : decode cX10_coinsOf 25 = .ok (.ireturn, 1) := by decide +kernel
theorem d_10_heaps_0 : decode cX10_heaps 0 = .ok (.aload_n 0, 1) := by decide +kernel
theorem d_10_heaps_1 : decode cX10_heaps 1 = .ok (.aload_n 0, 1) := by decide +kernel
theorem d_10_heaps_2 : decode cX10_heaps 2 = .ok (.getfield 7, 3) := by decide +kernel
theorem d_10_heaps_5 : decode cX10_heaps 5 = .ok (.iconst 3, 1) := by decide +kernel
theorem d_10_heaps_6 : decode cX10_heaps 6 = .ok (.iaload, 1) := by decide +kernel
theorem d_10_heaps_7 : decode cX10_heaps 7 = .ok (.invokevirtual 149, 3) := by decide +kernel
theorem d_10_heaps_10 : decode cX10_heaps 10 = .ok (.ireturn, 1) := by decide +kernel
theorem d_10_staleCoins_0 : decode cX10_staleCoins 0 = .ok (.aload_n 0, 1) := by decide +kernel
theorem d_10_staleCoins_1 : decode cX10_staleCoins 1 = .ok (.aload_n 0, 1) := by decide +kernel
theorem d_10_staleCoins_2 : decode cX10_staleCoins 2 = .ok (.invokevirtual 113, 3) := by decide +kernel
theorem d_10_staleCoins_5 : decode cX10_staleCoins 5 = .ok (.invokevirtual 149, 3) := by decide +kernel
theorem d_10_staleCoins_8 : decode cX10_staleCoins 8 = .ok (.ireturn, 1) := by decide +kernel
theorem d_10_coinsByHeaps_0 : decode cX10_coinsByHeaps 0 = .ok (.aload_n 0, 1) := by decide +kernel
theorem d_10_coinsByHeaps_1 : decode cX10_coinsByHeaps 1 = .ok (.aload_n 0, 1) := by decide +kernel
theorem d_10_coinsByHeaps_2 : decode cX10_coinsByHeaps 2 = .ok (.iconst (-1), 1) := by decide +kernel
theorem d_10_coinsByHeaps_3 : decode cX10_coinsByHeaps 3 = .ok (.invokevirtual 107, 3) := by decide +kernel
theorem d_10_coinsByHeaps_6 : decode cX10_coinsByHeaps 6 = .ok (.invokevirtual 149, 3) := by decide +kernel
theorem d_10_coinsByHeaps_9 : decode cX10_coinsByHeaps 9 = .ok (.ireturn, 1) := by decide +kernel
theorem d_10_coinsByAccounts_0 : decode cX10_coinsByAccounts 0 = .ok (.aload_n 0, 1) := by decide +kernel
theorem d_10_coinsByAccounts_1 : decode cX10_coinsByAccounts 1 = .ok (.aload_n 0, 1) := by decide +kernel
theorem d_10_coinsByAccounts_2 : decode cX10_coinsByAccounts 2 = .ok (.getfield 7, 3) := by decide +kernel
theorem d_10_coinsByAccounts_5 : decode cX10_coinsByAccounts 5 = .ok (.iconst 4, 1) := by decide +kernel
theorem d_10_coinsByAccounts_6 : decode cX10_coinsByAccounts 6 = .ok (.iaload, 1) := by decide +kernel
theorem d_10_coinsByAccounts_7 : decode cX10_coinsByAccounts 7 = .ok (.aload_n 0, 1) := by decide +kernel
theorem d_10_coinsByAccounts_8 : decode cX10_coinsByAccounts 8 = .ok (.getfield 7, 3) := by decide +kernel
theorem d_10_coinsByAccounts_11 : decode cX10_coinsByAccounts 11 = .ok (.iconst 5, 1) := by decide +kernel
theorem d_10_coinsByAccounts_12 : decode cX10_coinsByAccounts 12 = .ok (.iaload, 1) := by decide +kernel
theorem d_10_coinsByAccounts_13 : decode cX10_coinsByAccounts 13 = .ok (.isub, 1) := by decide +kernel
theorem d_10_coinsByAccounts_14 : decode cX10_coinsByAccounts 14 = .ok (.invokevirtual 149, 3) := by decide +kernel
theorem d_10_coinsByAccounts_17 : decode cX10_coinsByAccounts 17 = .ok (.ireturn, 1) := by decide +kernel
theorem d_10_recordedStates_0 : decode cX10_recordedStates 0 = .ok (.aload_n 0, 1) := by decide +kernel
theorem d_10_recordedStates_1 : decode cX10_recordedStates 1 = .ok (.aload_n 0, 1) := by decide +kernel
theorem d_10_recordedStates_2 : decode cX10_recordedStates 2 = .ok (.getfield 44, 3) := by decide +kernel
theorem d_10_recordedStates_5 : decode cX10_recordedStates 5 = .ok (.invokevirtual 149, 3) := by decide +kernel
theorem d_10_recordedStates_8 : decode cX10_recordedStates 8 = .ok (.ireturn, 1) := by decide +kernel
theorem d_L_strike_0 : decode cL_strike 0 = .ok (.aload_n 3, 1) := by decide +kernel
theorem d_L_strike_1 : decode cL_strike 1 = .ok (.iconst 0, 1) := by decide +kernel
theorem d_L_strike_2 : decode cL_strike 2 = .ok (.aload_n 0, 1) := by decide +kernel
theorem d_L_strike_3 : decode cL_strike 3 = .ok (.iload_n 1, 1) := by decide +kernel
theorem d_L_strike_4 : decode cL_strike 4 = .ok (.iload_n 2, 1) := by decide +kernel
theorem d_L_strike_5 : decode cL_strike 5 = .ok (.invokevirtual 7, 3) := by decide +kernel
theorem d_L_strike_8 : decode cL_strike 8 = .ok (.i2l, 1) := by decide +kernel
theorem d_L_strike_9 : decode cL_strike 9 = .ok (.lastore, 1) := by decide +kernel
theorem d_L_strike_10 : decode cL_strike 10 = .ok (.goto 15, 3) := by decide +kernel
theorem d_L_strike_13 : decode cL_strike 13 = .ok (.astore 4, 2) := by decide +kernel
theorem d_L_strike_15 : decode cL_strike 15 = .ok (.iconst 1, 1) := by decide +kernel
theorem d_L_strike_16 : decode cL_strike 16 = .ok (.ireturn, 1) := by decide +kernel
theorem d_L_strike_17 : decode cL_strike 17 = .ok (.astore 4, 2) := by decide +kernel
theorem d_L_strike_19 : decode cL_strike 19 = .ok (.iconst 2, 1) := by decide +kernel
theorem d_L_strike_20 : decode cL_strike 20 = .ok (.ireturn, 1) := by decide +kernel
theorem d_L_strike_21 : decode cL_strike 21 = .ok (.astore 4, 2) := by decide +kernel
theorem d_L_strike_23 : decode cL_strike 23 = .ok (.iconst 3, 1) := by decide +kernel
theorem d_L_strike_24 : decode cL_strike 24 = .ok (.ireturn, 1) := by decide +kernel
theorem d_L_strike_25 : decode cL_strike 25 = .ok (.iconst 0, 1) := by decide +kernel
theorem d_L_strike_26 : decode cL_strike 26 = .ok (.ireturn, 1) := by decide +kernel
theorem d_L_melt_0 : decode cL_melt 0 = .ok (.aload_n 3, 1) := by decide +kernel
theorem d_L_melt_1 : decode cL_melt 1 = .ok (.iconst 0, 1) := by decide +kernel
theorem d_L_melt_2 : decode cL_melt 2 = .ok (.aload_n 0, 1) := by decide +kernel
theorem d_L_melt_3 : decode cL_melt 3 = .ok (.iload_n 1, 1) := by decide +kernel
theorem d_L_melt_4 : decode cL_melt 4 = .ok (.iload_n 2, 1) := by decide +kernel
theorem d_L_melt_5 : decode cL_melt 5 = .ok (.invokevirtual 19, 3) := by decide +kernel
theorem d_L_melt_8 : decode cL_melt 8 = .ok (.i2l, 1) := by decide +kernel
theorem d_L_melt_9 : decode cL_melt 9 = .ok (.lastore, 1) := by decide +kernel
theorem d_L_melt_10 : decode cL_melt 10 = .ok (.goto 15, 3) := by decide +kernel
theorem d_L_melt_13 : decode cL_melt 13 = .ok (.astore 4, 2) := by decide +kernel
theorem d_L_melt_15 : decode cL_melt 15 = .ok (.iconst 1, 1) := by decide +kernel
theorem d_L_melt_16 : decode cL_melt 16 = .ok (.ireturn, 1) := by decide +kernel
theorem d_L_melt_17 : decode cL_melt 17 = .ok (.astore 4, 2) := by decide +kernel
theorem d_L_melt_19 : decode cL_melt 19 = .ok (.iconst 2, 1) := by decide +kernel
theorem d_L_melt_20 : decode cL_melt 20 = .ok (.ireturn, 1) := by decide +kernel
theorem d_L_melt_21 : decode cL_melt 21 = .ok (.astore 4, 2) := by decide +kernel
theorem d_L_melt_23 : decode cL_melt 23 = .ok (.iconst 3, 1) := by decide +kernel
theorem d_L_melt_24 : decode cL_melt 24 = .ok (.ireturn, 1) := by decide +kernel
theorem d_L_melt_25 : decode cL_melt 25 = .ok (.iconst 0, 1) := by decide +kernel
theorem d_L_melt_26 : decode cL_melt 26 = .ok (.ireturn, 1) := by decide +kernel
theorem d_L_dropDie_0 : decode cL_dropDie 0 = .ok (.aload_n 2, 1) := by decide +kernel
theorem d_L_dropDie_1 : decode cL_dropDie 1 = .ok (.iconst 0, 1) := by decide +kernel
theorem d_L_dropDie_2 : decode cL_dropDie 2 = .ok (.aload_n 0, 1) := by decide +kernel
theorem d_L_dropDie_3 : decode cL_dropDie 3 = .ok (.iload_n 1, 1) := by decide +kernel
theorem d_L_dropDie_4 : decode cL_dropDie 4 = .ok (.invokevirtual 22, 3) := by decide +kernel
theorem d_L_dropDie_7 : decode cL_dropDie 7 = .ok (.i2l, 1) := by decide +kernel
theorem d_L_dropDie_8 : decode cL_dropDie 8 = .ok (.lastore, 1) := by decide +kernel
theorem d_L_dropDie_9 : decode cL_dropDie 9 = .ok (.goto 9, 3) := by decide +kernel
theorem d_L_dropDie_12 : decode cL_dropDie 12 = .ok (.astore_n 3, 1) := by decide +kernel
theorem d_L_dropDie_13 : decode cL_dropDie 13 = .ok (.iconst 1, 1) := by decide +kernel
theorem d_L_dropDie_14 : decode cL_dropDie 14 = .ok (.ireturn, 1) := by decide +kernel
theorem d_L_dropDie_15 : decode cL_dropDie 15 = .ok (.astore_n 3, 1) := by decide +kernel
theorem d_L_dropDie_16 : decode cL_dropDie 16 = .ok (.iconst 2, 1) := by decide +kernel
theorem d_L_dropDie_17 : decode cL_dropDie 17 = .ok (.ireturn, 1) := by decide +kernel
theorem d_L_dropDie_18 : decode cL_dropDie 18 = .ok (.iconst 0, 1) := by decide +kernel
theorem d_L_dropDie_19 : decode cL_dropDie 19 = .ok (.ireturn, 1) := by decide +kernel
theorem d_L_dropIrregular_0 : decode cL_dropIrregular 0 = .ok (.aload_n 1, 1) := by decide +kernel
theorem d_L_dropIrregular_1 : decode cL_dropIrregular 1 = .ok (.iconst 0, 1) := by decide +kernel
theorem d_L_dropIrregular_2 : decode cL_dropIrregular 2 = .ok (.aload_n 0, 1) := by decide +kernel
theorem d_L_dropIrregular_3 : decode cL_dropIrregular 3 = .ok (.invokevirtual 26, 3) := by decide +kernel
theorem d_L_dropIrregular_6 : decode cL_dropIrregular 6 = .ok (.i2l, 1) := by decide +kernel
theorem d_L_dropIrregular_7 : decode cL_dropIrregular 7 = .ok (.lastore, 1) := by decide +kernel
theorem d_L_dropIrregular_8 : decode cL_dropIrregular 8 = .ok (.goto 6, 3) := by decide +kernel
theorem d_L_dropIrregular_11 : decode cL_dropIrregular 11 = .ok (.astore_n 2, 1) := by decide +kernel
theorem d_L_dropIrregular_12 : decode cL_dropIrregular 12 = .ok (.iconst 1, 1) := by decide +kernel
theorem d_L_dropIrregular_13 : decode cL_dropIrregular 13 = .ok (.ireturn, 1) := by decide +kernel
theorem d_L_dropIrregular_14 : decode cL_dropIrregular 14 = .ok (.iconst 0, 1) := by decide +kernel
theorem d_L_dropIrregular_15 : decode cL_dropIrregular 15 = .ok (.ireturn, 1) := by decide +kernel
theorem d_L_type_0 : decode cL_type 0 = .ok (.aload_n 2, 1) := by decide +kernel
theorem d_L_type_1 : decode cL_type 1 = .ok (.iconst 0, 1) := by decide +kernel
theorem d_L_type_2 : decode cL_type 2 = .ok (.aload_n 0, 1) := by decide +kernel
theorem d_L_type_3 : decode cL_type 3 = .ok (.iload_n 1, 1) := by decide +kernel
theorem d_L_type_4 : decode cL_type 4 = .ok (.invokevirtual 30, 3) := by decide +kernel
theorem d_L_type_7 : decode cL_type 7 = .ok (.i2l, 1) := by decide +kernel
theorem d_L_type_8 : decode cL_type 8 = .ok (.lastore, 1) := by decide +kernel
theorem d_L_type_9 : decode cL_type 9 = .ok (.goto 6, 3) := by decide +kernel
theorem d_L_type_12 : decode cL_type 12 = .ok (.astore_n 3, 1) := by decide +kernel
theorem d_L_type_13 : decode cL_type 13 = .ok (.iconst 1, 1) := by decide +kernel
theorem d_L_type_14 : decode cL_type 14 = .ok (.ireturn, 1) := by decide +kernel
theorem d_L_type_15 : decode cL_type 15 = .ok (.iconst 0, 1) := by decide +kernel
theorem d_L_type_16 : decode cL_type 16 = .ok (.ireturn, 1) := by decide +kernel
theorem d_L_impossibleOrder_0 : decode cL_impossibleOrder 0 = .ok (.aload_n 1, 1) := by decide +kernel
theorem d_L_impossibleOrder_1 : decode cL_impossibleOrder 1 = .ok (.iconst 0, 1) := by decide +kernel
theorem d_L_impossibleOrder_2 : decode cL_impossibleOrder 2 = .ok (.aload_n 0, 1) := by decide +kernel
theorem d_L_impossibleOrder_3 : decode cL_impossibleOrder 3 = .ok (.invokevirtual 34, 3) := by decide +kernel
theorem d_L_impossibleOrder_6 : decode cL_impossibleOrder 6 = .ok (.i2l, 1) := by decide +kernel
theorem d_L_impossibleOrder_7 : decode cL_impossibleOrder 7 = .ok (.lastore, 1) := by decide +kernel
theorem d_L_impossibleOrder_8 : decode cL_impossibleOrder 8 = .ok (.goto 6, 3) := by decide +kernel
theorem d_L_impossibleOrder_11 : decode cL_impossibleOrder 11 = .ok (.astore_n 2, 1) := by decide +kernel
theorem d_L_impossibleOrder_12 : decode cL_impossibleOrder 12 = .ok (.iconst 1, 1) := by decide +kernel
theorem d_L_impossibleOrder_13 : decode cL_impossibleOrder 13 = .ok (.ireturn, 1) := by decide +kernel
theorem d_L_impossibleOrder_14 : decode cL_impossibleOrder 14 = .ok (.iconst 0, 1) := by decide +kernel
theorem d_L_impossibleOrder_15 : decode cL_impossibleOrder 15 = .ok (.ireturn, 1) := by decide +kernel
theorem d_L_carryOut_0 : decode cL_carryOut 0 = .ok (.aload_n 1, 1) := by decide +kernel
theorem d_L_carryOut_1 : decode cL_carryOut 1 = .ok (.iconst 0, 1) := by decide +kernel
theorem d_L_carryOut_2 : decode cL_carryOut 2 = .ok (.aload_n 0, 1) := by decide +kernel
theorem d_L_carryOut_3 : decode cL_carryOut 3 = .ok (.invokevirtual 37, 3) := by decide +kernel
theorem d_L_carryOut_6 : decode cL_carryOut 6 = .ok (.i2l, 1) := by decide +kernel
theorem d_L_carryOut_7 : decode cL_carryOut 7 = .ok (.lastore, 1) := by decide +kernel
theorem d_L_carryOut_8 : decode cL_carryOut 8 = .ok (.goto 6, 3) := by decide +kernel
theorem d_L_carryOut_11 : decode cL_carryOut 11 = .ok (.astore_n 2, 1) := by decide +kernel
theorem d_L_carryOut_12 : decode cL_carryOut 12 = .ok (.iconst 1, 1) := by decide +kernel
theorem d_L_carryOut_13 : decode cL_carryOut 13 = .ok (.ireturn, 1) := by decide +kernel
theorem d_L_carryOut_14 : decode cL_carryOut 14 = .ok (.iconst 0, 1) := by decide +kernel
theorem d_L_carryOut_15 : decode cL_carryOut 15 = .ok (.ireturn, 1) := by decide +kernel
theorem d_L_undo_0 : decode cL_undo 0 = .ok (.aload_n 1, 1) := by decide +kernel
theorem d_L_undo_1 : decode cL_undo 1 = .ok (.iconst 0, 1) := by decide +kernel
theorem d_L_undo_2 : decode cL_undo 2 = .ok (.aload_n 0, 1) := by decide +kernel
theorem d_L_undo_3 : decode cL_undo 3 = .ok (.invokevirtual 40, 3) := by decide +kernel
theorem d_L_undo_6 : decode cL_undo 6 = .ok (.i2l, 1) := by decide +kernel
theorem d_L_undo_7 : decode cL_undo 7 = .ok (.lastore, 1) := by decide +kernel
theorem d_L_undo_8 : decode cL_undo 8 = .ok (.goto 6, 3) := by decide +kernel
theorem d_L_undo_11 : decode cL_undo 11 = .ok (.astore_n 2, 1) := by decide +kernel
theorem d_L_undo_12 : decode cL_undo 12 = .ok (.iconst 1, 1) := by decide +kernel
theorem d_L_undo_13 : decode cL_undo 13 = .ok (.ireturn, 1) := by decide +kernel
theorem d_L_undo_14 : decode cL_undo 14 = .ok (.iconst 0, 1) := by decide +kernel
theorem d_L_undo_15 : decode cL_undo 15 = .ok (.ireturn, 1) := by decide +kernel
theorem d_L_restoreSnapshot_0 : decode cL_restoreSnapshot 0 = .ok (.aload_n 1, 1) := by decide +kernel
theorem d_L_restoreSnapshot_1 : decode cL_restoreSnapshot 1 = .ok (.iconst 0, 1) := by decide +kernel
theorem d_L_restoreSnapshot_2 : decode cL_restoreSnapshot 2 = .ok (.aload_n 0, 1) := by decide +kernel
theorem d_L_restoreSnapshot_3 : decode cL_restoreSnapshot 3 = .ok (.invokevirtual 43, 3) := by decide +kernel
theorem d_L_restoreSnapshot_6 : decode cL_restoreSnapshot 6 = .ok (.i2l, 1) := by decide +kernel
theorem d_L_restoreSnapshot_7 : decode cL_restoreSnapshot 7 = .ok (.lastore, 1) := by decide +kernel
theorem d_L_restoreSnapshot_8 : decode cL_restoreSnapshot 8 = .ok (.goto 6, 3) := by decide +kernel
theorem d_L_restoreSnapshot_11 : decode cL_restoreSnapshot 11 = .ok (.astore_n 2, 1) := by decide +kernel
theorem d_L_restoreSnapshot_12 : decode cL_restoreSnapshot 12 = .ok (.iconst 1, 1) := by decide +kernel
theorem d_L_restoreSnapshot_13 : decode cL_restoreSnapshot 13 = .ok (.ireturn, 1) := by decide +kernel
theorem d_L_restoreSnapshot_14 : decode cL_restoreSnapshot 14 = .ok (.iconst 0, 1) := by decide +kernel
theorem d_L_restoreSnapshot_15 : decode cL_restoreSnapshot 15 = .ok (.ireturn, 1) := by decide +kernel
theorem d_L_lettersOf_0 : decode cL_lettersOf 0 = .ok (.aload_n 2, 1) := by decide +kernel
theorem d_L_lettersOf_1 : decode cL_lettersOf 1 = .ok (.iconst 0, 1) := by decide +kernel
theorem d_L_lettersOf_2 : decode cL_lettersOf 2 = .ok (.aload_n 0, 1) := by decide +kernel
theorem d_L_lettersOf_3 : decode cL_lettersOf 3 = .ok (.iload_n 1, 1) := by decide +kernel
theorem d_L_lettersOf_4 : decode cL_lettersOf 4 = .ok (.invokevirtual 46, 3) := by decide +kernel
theorem d_L_lettersOf_7 : decode cL_lettersOf 7 = .ok (.i2l, 1) := by decide +kernel
theorem d_L_lettersOf_8 : decode cL_lettersOf 8 = .ok (.lastore, 1) := by decide +kernel
theorem d_L_lettersOf_9 : decode cL_lettersOf 9 = .ok (.goto 6, 3) := by decide +kernel
theorem d_L_lettersOf_12 : decode cL_lettersOf 12 = .ok (.astore_n 3, 1) := by decide +kernel
theorem d_L_lettersOf_13 : decode cL_lettersOf 13 = .ok (.iconst 1, 1) := by decide +kernel
theorem d_L_lettersOf_14 : decode cL_lettersOf 14 = .ok (.ireturn, 1) := by decide +kernel
theorem d_L_lettersOf_15 : decode cL_lettersOf 15 = .ok (.iconst 0, 1) := by decide +kernel
theorem d_L_lettersOf_16 : decode cL_lettersOf 16 = .ok (.ireturn, 1) := by decide +kernel
theorem d_L_pluralLetters_0 : decode cL_pluralLetters 0 = .ok (.aload_n 2, 1) := by decide +kernel
theorem d_L_pluralLetters_1 : decode cL_pluralLetters 1 = .ok (.iconst 0, 1) := by decide +kernel
theorem d_L_pluralLetters_2 : decode cL_pluralLetters 2 = .ok (.aload_n 0, 1) := by decide +kernel
theorem d_L_pluralLetters_3 : decode cL_pluralLetters 3 = .ok (.iload_n 1, 1) := by decide +kernel
theorem d_L_pluralLetters_4 : decode cL_pluralLetters 4 = .ok (.invokevirtual 49, 3) := by decide +kernel
theorem d_L_pluralLetters_7 : decode cL_pluralLetters 7 = .ok (.i2l, 1) := by decide +kernel
theorem d_L_pluralLetters_8 : decode cL_pluralLetters 8 = .ok (.lastore, 1) := by decide +kernel
theorem d_L_pluralLetters_9 : decode cL_pluralLetters 9 = .ok (.goto 6, 3) := by decide +kernel
theorem d_L_pluralLetters_12 : decode cL_pluralLetters 12 = .ok (.astore_n 3, 1) := by decide +kernel
theorem d_L_pluralLetters_13 : decode cL_pluralLetters 13 = .ok (.iconst 1, 1) := by decide +kernel
theorem d_L_pluralLetters_14 : decode cL_pluralLetters 14 = .ok (.ireturn, 1) := by decide +kernel
theorem d_L_pluralLetters_15 : decode cL_pluralLetters 15 = .ok (.iconst 0, 1) := by decide +kernel
theorem d_L_pluralLetters_16 : decode cL_pluralLetters 16 = .ok (.ireturn, 1) := by decide +kernel
theorem d_L_pluralLetter_0 : decode cL_pluralLetter 0 = .ok (.aload_n 3, 1) := by decide +kernel
theorem d_L_pluralLetter_1 : decode cL_pluralLetter 1 = .ok (.iconst 0, 1) := by decide +kernel
theorem d_L_pluralLetter_2 : decode cL_pluralLetter 2 = .ok (.aload_n 0, 1) := by decide +kernel
theorem d_L_pluralLetter_3 : decode cL_pluralLetter 3 = .ok (.iload_n 1, 1) := by decide +kernel
theorem d_L_pluralLetter_4 : decode cL_pluralLetter 4 = .ok (.iload_n 2, 1) := by decide +kernel
theorem d_L_pluralLetter_5 : decode cL_pluralLetter 5 = .ok (.invokevirtual 52, 3) := by decide +kernel
theorem d_L_pluralLetter_8 : decode cL_pluralLetter 8 = .ok (.i2l, 1) := by decide +kernel
theorem d_L_pluralLetter_9 : decode cL_pluralLetter 9 = .ok (.lastore, 1) := by decide +kernel
theorem d_L_pluralLetter_10 : decode cL_pluralLetter 10 = .ok (.goto 7, 3) := by decide +kernel
theorem d_L_pluralLetter_13 : decode cL_pluralLetter 13 = .ok (.astore 4, 2) := by decide +kernel
theorem d_L_pluralLetter_15 : decode cL_pluralLetter 15 = .ok (.iconst 1, 1) := by decide +kernel
theorem d_L_pluralLetter_16 : decode cL_pluralLetter 16 = .ok (.ireturn, 1) := by decide +kernel
theorem d_L_pluralLetter_17 : decode cL_pluralLetter 17 = .ok (.iconst 0, 1) := by decide +kernel
theorem d_L_pluralLetter_18 : decode cL_pluralLetter 18 = .ok (.ireturn, 1) := by decide +kernel
theorem d_L_countedLetter_0 : decode cL_countedLetter 0 = .ok (.aload 4, 2) := by decide +kernel
theorem d_L_countedLetter_2 : decode cL_countedLetter 2 = .ok (.iconst 0, 1) := by decide +kernel
theorem d_L_countedLetter_3 : decode cL_countedLetter 3 = .ok (.aload_n 0, 1) := by decide +kernel
theorem d_L_countedLetter_4 : decode cL_countedLetter 4 = .ok (.iload_n 1, 1) := by decide +kernel
theorem d_L_countedLetter_5 : decode cL_countedLetter 5 = .ok (.iload_n 2, 1) := by decide +kernel
theorem d_L_countedLetter_6 : decode cL_countedLetter 6 = .ok (.iload_n 3, 1) := by decide +kernel
theorem d_L_countedLetter_7 : decode cL_countedLetter 7 = .ok (.invokevirtual 56, 3) := by decide +kernel
theorem d_L_countedLetter_10 : decode cL_countedLetter 10 = .ok (.i2l, 1) := by decide +kernel
theorem d_L_countedLetter_11 : decode cL_countedLetter 11 = .ok (.lastore, 1) := by decide +kernel
theorem d_L_countedLetter_12 : decode cL_countedLetter 12 = .ok (.goto 11, 3) := by decide +kernel
theorem d_L_countedLetter_15 : decode cL_countedLetter 15 = .ok (.astore 5, 2) := by decide +kernel
theorem d_L_countedLetter_17 : decode cL_countedLetter 17 = .ok (.iconst 1, 1) := by decide +kernel
theorem d_L_countedLetter_18 : decode cL_countedLetter 18 = .ok (.ireturn, 1) := by decide +kernel
theorem d_L_countedLetter_19 : decode cL_countedLetter 19 = .ok (.astore 5, 2) := by decide +kernel
theorem d_L_countedLetter_21 : decode cL_countedLetter 21 = .ok (.iconst 2, 1) := by decide +kernel
theorem d_L_countedLetter_22 : decode cL_countedLetter 22 = .ok (.ireturn, 1) := by decide +kernel
theorem d_L_countedLetter_23 : decode cL_countedLetter 23 = .ok (.iconst 0, 1) := by decide +kernel
theorem d_L_countedLetter_24 : decode cL_countedLetter 24 = .ok (.ireturn, 1) := by decide +kernel
theorem d_L_isIrregular_0 : decode cL_isIrregular 0 = .ok (.aload_n 2, 1) := by decide +kernel
theorem d_L_isIrregular_1 : decode cL_isIrregular 1 = .ok (.iconst 0, 1) := by decide +kernel
theorem d_L_isIrregular_2 : decode cL_isIrregular 2 = .ok (.aload_n 0, 1) := by decide +kernel
theorem d_L_isIrregular_3 : decode cL_isIrregular 3 = .ok (.iload_n 1, 1) := by decide +kernel
theorem d_L_isIrregular_4 : decode cL_isIrregular 4 = .ok (.invokevirtual 60, 3) := by decide +kernel
theorem d_L_isIrregular_7 : decode cL_isIrregular 7 = .ok (.ifCond .eq 7, 3) := by decide +kernel
theorem d_L_isIrregular_10 : decode cL_isIrregular 10 = .ok (.lconst 1, 1) := by decide +kernel
theorem d_L_isIrregular_11 : decode cL_isIrregular 11 = .ok (.goto 4, 3) := by decide +kernel
theorem d_L_isIrregular_14 : decode cL_isIrregular 14 = .ok (.lconst 0, 1) := by decide +kernel
theorem d_L_isIrregular_15 : decode cL_isIrregular 15 = .ok (.lastore, 1) := by decide +kernel
theorem d_L_isIrregular_16 : decode cL_isIrregular 16 = .ok (.goto 6, 3) := by decide +kernel
theorem d_L_isIrregular_19 : decode cL_isIrregular 19 = .ok (.astore_n 3, 1) := by decide +kernel
theorem d_L_isIrregular_20 : decode cL_isIrregular 20 = .ok (.iconst 1, 1) := by decide +kernel
theorem d_L_isIrregular_21 : decode cL_isIrregular 21 = .ok (.ireturn, 1) := by decide +kernel
theorem d_L_isIrregular_22 : decode cL_isIrregular 22 = .ok (.iconst 0, 1) := by decide +kernel
theorem d_L_isIrregular_23 : decode cL_isIrregular 23 = .ok (.ireturn, 1) := by decide +kernel
theorem d_L_dieFor_0 : decode cL_dieFor 0 = .ok (.aload_n 2, 1) := by decide +kernel
theorem d_L_dieFor_1 : decode cL_dieFor 1 = .ok (.iconst 0, 1) := by decide +kernel
theorem d_L_dieFor_2 : decode cL_dieFor 2 = .ok (.aload_n 0, 1) := by decide +kernel
theorem d_L_dieFor_3 : decode cL_dieFor 3 = .ok (.iload_n 1, 1) := by decide +kernel
theorem d_L_dieFor_4 : decode cL_dieFor 4 = .ok (.invokevirtual 64, 3) := by decide +kernel
theorem d_L_dieFor_7 : decode cL_dieFor 7 = .ok (.i2l, 1) := by decide +kernel
theorem d_L_dieFor_8 : decode cL_dieFor 8 = .ok (.lastore, 1) := by decide +kernel
theorem d_L_dieFor_9 : decode cL_dieFor 9 = .ok (.goto 6, 3) := by decide +kernel
theorem d_L_dieFor_12 : decode cL_dieFor 12 = .ok (.astore_n 3, 1) := by decide +kernel
theorem d_L_dieFor_13 : decode cL_dieFor 13 = .ok (.iconst 1, 1) := by decide +kernel
theorem d_L_dieFor_14 : decode cL_dieFor 14 = .ok (.ireturn, 1) := by decide +kernel
theorem d_L_dieFor_15 : decode cL_dieFor 15 = .ok (.iconst 0, 1) := by decide +kernel
theorem d_L_dieFor_16 : decode cL_dieFor 16 = .ok (.ireturn, 1) := by decide +kernel
theorem d_L_recallByStriking_0 : decode cL_recallByStriking 0 = .ok (.aload_n 1, 1) := by decide +kernel
theorem d_L_recallByStriking_1 : decode cL_recallByStriking 1 = .ok (.iconst 0, 1) := by decide +kernel
theorem d_L_recallByStriking_2 : decode cL_recallByStriking 2 = .ok (.aload_n 0, 1) := by decide +kernel
theorem d_L_recallByStriking_3 : decode cL_recallByStriking 3 = .ok (.invokevirtual 67, 3) := by decide +kernel
theorem d_L_recallByStriking_6 : decode cL_recallByStriking 6 = .ok (.i2l, 1) := by decide +kernel
theorem d_L_recallByStriking_7 : decode cL_recallByStriking 7 = .ok (.lastore, 1) := by decide +kernel
theorem d_L_recallByStriking_8 : decode cL_recallByStriking 8 = .ok (.goto 6, 3) := by decide +kernel
theorem d_L_recallByStriking_11 : decode cL_recallByStriking 11 = .ok (.astore_n 2, 1) := by decide +kernel
theorem d_L_recallByStriking_12 : decode cL_recallByStriking 12 = .ok (.iconst 1, 1) := by decide +kernel
theorem d_L_recallByStriking_13 : decode cL_recallByStriking 13 = .ok (.ireturn, 1) := by decide +kernel
theorem d_L_recallByStriking_14 : decode cL_recallByStriking 14 = .ok (.iconst 0, 1) := by decide +kernel
theorem d_L_recallByStriking_15 : decode cL_recallByStriking 15 = .ok (.ireturn, 1) := by decide +kernel
theorem d_L_recallByReversing_0 : decode cL_recallByReversing 0 = .ok (.aload_n 1, 1) := by decide +kernel
theorem d_L_recallByReversing_1 : decode cL_recallByReversing 1 = .ok (.iconst 0, 1) := by decide +kernel
theorem d_L_recallByReversing_2 : decode cL_recallByReversing 2 = .ok (.aload_n 0, 1) := by decide +kernel
theorem d_L_recallByReversing_3 : decode cL_recallByReversing 3 = .ok (.invokevirtual 70, 3) := by decide +kernel
theorem d_L_recallByReversing_6 : decode cL_recallByReversing 6 = .ok (.i2l, 1) := by decide +kernel
theorem d_L_recallByReversing_7 : decode cL_recallByReversing 7 = .ok (.lastore, 1) := by decide +kernel
theorem d_L_recallByReversing_8 : decode cL_recallByReversing 8 = .ok (.goto 6, 3) := by decide +kernel
theorem d_L_recallByReversing_11 : decode cL_recallByReversing 11 = .ok (.astore_n 2, 1) := by decide +kernel
theorem d_L_recallByReversing_12 : decode cL_recallByReversing 12 = .ok (.iconst 1, 1) := by decide +kernel
theorem d_L_recallByReversing_13 : decode cL_recallByReversing 13 = .ok (.ireturn, 1) := by decide +kernel
theorem d_L_recallByReversing_14 : decode cL_recallByReversing 14 = .ok (.iconst 0, 1) := by decide +kernel
theorem d_L_recallByReversing_15 : decode cL_recallByReversing 15 = .ok (.ireturn, 1) := by decide +kernel
theorem d_L_possibleNouns_0 : decode cL_possibleNouns 0 = .ok (.aload_n 1, 1) := by decide +kernel
theorem d_L_possibleNouns_1 : decode cL_possibleNouns 1 = .ok (.iconst 0, 1) := by decide +kernel
theorem d_L_possibleNouns_2 : decode cL_possibleNouns 2 = .ok (.aload_n 0, 1) := by decide +kernel
theorem d_L_possibleNouns_3 : decode cL_possibleNouns 3 = .ok (.invokevirtual 73, 3) := by decide +kernel
theorem d_L_possibleNouns_6 : decode cL_possibleNouns 6 = .ok (.i2l, 1) := by decide +kernel
theorem d_L_possibleNouns_7 : decode cL_possibleNouns 7 = .ok (.lastore, 1) := by decide +kernel
theorem d_L_possibleNouns_8 : decode cL_possibleNouns 8 = .ok (.goto 6, 3) := by decide +kernel
theorem d_L_possibleNouns_11 : decode cL_possibleNouns 11 = .ok (.astore_n 2, 1) := by decide +kernel
theorem d_L_possibleNouns_12 : decode cL_possibleNouns 12 = .ok (.iconst 1, 1) := by decide +kernel
theorem d_L_possibleNouns_13 : decode cL_possibleNouns 13 = .ok (.ireturn, 1) := by decide +kernel
theorem d_L_possibleNouns_14 : decode cL_possibleNouns 14 = .ok (.iconst 0, 1) := by decide +kernel
theorem d_L_possibleNouns_15 : decode cL_possibleNouns 15 = .ok (.ireturn, 1) := by decide +kernel
theorem d_L_fitsOf_0 : decode cL_fitsOf 0 = .ok (.aload_n 2, 1) := by decide +kernel
theorem d_L_fitsOf_1 : decode cL_fitsOf 1 = .ok (.iconst 0, 1) := by decide +kernel
theorem d_L_fitsOf_2 : decode cL_fitsOf 2 = .ok (.aload_n 0, 1) := by decide +kernel
theorem d_L_fitsOf_3 : decode cL_fitsOf 3 = .ok (.iload_n 1, 1) := by decide +kernel
theorem d_L_fitsOf_4 : decode cL_fitsOf 4 = .ok (.invokevirtual 76, 3) := by decide +kernel
theorem d_L_fitsOf_7 : decode cL_fitsOf 7 = .ok (.i2l, 1) := by decide +kernel
theorem d_L_fitsOf_8 : decode cL_fitsOf 8 = .ok (.lastore, 1) := by decide +kernel
theorem d_L_fitsOf_9 : decode cL_fitsOf 9 = .ok (.goto 6, 3) := by decide +kernel
theorem d_L_fitsOf_12 : decode cL_fitsOf 12 = .ok (.astore_n 3, 1) := by decide +kernel
theorem d_L_fitsOf_13 : decode cL_fitsOf 13 = .ok (.iconst 1, 1) := by decide +kernel
theorem d_L_fitsOf_14 : decode cL_fitsOf 14 = .ok (.ireturn, 1) := by decide +kernel
theorem d_L_fitsOf_15 : decode cL_fitsOf 15 = .ok (.iconst 0, 1) := by decide +kernel
theorem d_L_fitsOf_16 : decode cL_fitsOf 16 = .ok (.ireturn, 1) := by decide +kernel
theorem d_L_coinsOf_0 : decode cL_coinsOf 0 = .ok (.aload_n 2, 1) := by decide +kernel
theorem d_L_coinsOf_1 : decode cL_coinsOf 1 = .ok (.iconst 0, 1) := by decide +kernel
theorem d_L_coinsOf_2 : decode cL_coinsOf 2 = .ok (.aload_n 0, 1) := by decide +kernel
theorem d_L_coinsOf_3 : decode cL_coinsOf 3 = .ok (.iload_n 1, 1) := by decide +kernel
theorem d_L_coinsOf_4 : decode cL_coinsOf 4 = .ok (.invokevirtual 79, 3) := by decide +kernel
theorem d_L_coinsOf_7 : decode cL_coinsOf 7 = .ok (.i2l, 1) := by decide +kernel
theorem d_L_coinsOf_8 : decode cL_coinsOf 8 = .ok (.lastore, 1) := by decide +kernel
theorem d_L_coinsOf_9 : decode cL_coinsOf 9 = .ok (.goto 6, 3) := by decide +kernel
theorem d_L_coinsOf_12 : decode cL_coinsOf 12 = .ok (.astore_n 3, 1) := by decide +kernel
theorem d_L_coinsOf_13 : decode cL_coinsOf 13 = .ok (.iconst 1, 1) := by decide +kernel
theorem d_L_coinsOf_14 : decode cL_coinsOf 14 = .ok (.ireturn, 1) := by decide +kernel
theorem d_L_coinsOf_15 : decode cL_coinsOf 15 = .ok (.iconst 0, 1) := by decide +kernel
theorem d_L_coinsOf_16 : decode cL_coinsOf 16 = .ok (.ireturn, 1) := by decide +kernel
theorem d_L_law_0 : decode cL_law 0 = .ok (.new 8, 3) := by decide +kernel
theorem d_L_law_3 : decode cL_law 3 = .ok (.dup, 1) := by decide +kernel
theorem d_L_law_4 : decode cL_law 4 = .ok (.invokespecial 82, 3) := by decide +kernel
theorem d_L_law_7 : decode cL_law 7 = .ok (.astore_n 1, 1) := by decide +kernel
theorem d_L_law_8 : decode cL_law 8 = .ok (.new 83, 3) := by decide +kernel
theorem d_L_law_11 : decode cL_law 11 = .ok (.dup, 1) := by decide +kernel
theorem d_L_law_12 : decode cL_law 12 = .ok (.invokespecial 85, 3) := by decide +kernel
theorem d_L_law_15 : decode cL_law 15 = .ok (.astore_n 2, 1) := by decide +kernel
theorem d_L_law_16 : decode cL_law 16 = .ok (.iconst 1, 1) := by decide +kernel
theorem d_L_law_17 : decode cL_law 17 = .ok (.newarray .long, 2) := by decide +kernel
theorem d_L_law_19 : decode cL_law 19 = .ok (.astore_n 3, 1) := by decide +kernel
theorem d_L_law_20 : decode cL_law 20 = .ok (.iconst 0, 1) := by decide +kernel
theorem d_L_law_21 : decode cL_law 21 = .ok (.istore 4, 2) := by decide +kernel
theorem d_L_law_23 : decode cL_law 23 = .ok (.iload 4, 2) := by decide +kernel
theorem d_L_law_25 : decode cL_law 25 = .ok (.aload_n 0, 1) := by decide +kernel
theorem d_L_law_26 : decode cL_law 26 = .ok (.arraylength, 1) := by decide +kernel
theorem d_L_law_27 : decode cL_law 27 = .ok (.iconst 4, 1) := by decide +kernel
theorem d_L_law_28 : decode cL_law 28 = .ok (.isub, 1) := by decide +kernel
theorem d_L_law_29 : decode cL_law 29 = .ok (.if_icmp .gt 1423, 3) := by decide +kernel
theorem d_L_law_32 : decode cL_law 32 = .ok (.aload_n 0, 1) := by decide +kernel
theorem d_L_law_33 : decode cL_law 33 = .ok (.iload 4, 2) := by decide +kernel
theorem d_L_law_35 : decode cL_law 35 = .ok (.iaload, 1) := by decide +kernel
theorem d_L_law_36 : decode cL_law 36 = .ok (.bipush 63, 2) := by decide +kernel
theorem d_L_law_38 : decode cL_law 38 = .ok (.iand, 1) := by decide +kernel
theorem d_L_law_39 : decode cL_law 39 = .ok (.tableswitch 1407 0 32 #[145, 213, 281, 294, 350, 394, 452, 465, 478, 522, 566, 610, 623, 667, 680, 736, 792, 860, 940, 1003, 1059, 1072, 1116, 1160, 1204, 1217, 1230, 1286, 1342, 1355, 1368, 1381, 1394], 145) := by decide +kernel
theorem d_L_law_184 : decode cL_law 184 = .ok (.aload_n 1, 1) := by decide +kernel
theorem d_L_law_185 : decode cL_law 185 = .ok (.aload_n 0, 1) := by decide +kernel
theorem d_L_law_186 : decode cL_law 186 = .ok (.iload 4, 2) := by decide +kernel
theorem d_L_law_188 : decode cL_law 188 = .ok (.iconst 1, 1) := by decide +kernel
theorem d_L_law_189 : decode cL_law 189 = .ok (.iadd, 1) := by decide +kernel
theorem d_L_law_190 : decode cL_law 190 = .ok (.iaload, 1) := by decide +kernel
theorem d_L_law_191 : decode cL_law 191 = .ok (.aload_n 0, 1) := by decide +kernel
theorem d_L_law_192 : decode cL_law 192 = .ok (.iload 4, 2) := by decide +kernel
theorem d_L_law_194 : decode cL_law 194 = .ok (.iconst 2, 1) := by decide +kernel
theorem d_L_law_195 : decode cL_law 195 = .ok (.iadd, 1) := by decide +kernel
theorem d_L_law_196 : decode cL_law 196 = .ok (.iaload, 1) := by decide +kernel
theorem d_L_law_197 : decode cL_law 197 = .ok (.aload_n 3, 1) := by decide +kernel
theorem d_L_law_198 : decode cL_law 198 = .ok (.invokestatic 86, 3) := by decide +kernel
theorem d_L_law_201 : decode cL_law 201 = .ok (.istore 5, 2) := by decide +kernel
theorem d_L_law_203 : decode cL_law 203 = .ok (.aload_n 2, 1) := by decide +kernel
theorem d_L_law_204 : decode cL_law 204 = .ok (.aload_n 0, 1) := by decide +kernel
theorem d_L_law_205 : decode cL_law 205 = .ok (.iload 4, 2) := by decide +kernel
theorem d_L_law_207 : decode cL_law 207 = .ok (.iconst 1, 1) := by decide +kernel
theorem d_L_law_208 : decode cL_law 208 = .ok (.iadd, 1) := by decide +kernel
theorem d_L_law_209 : decode cL_law 209 = .ok (.iaload, 1) := by decide +kernel
theorem d_L_law_210 : decode cL_law 210 = .ok (.aload_n 0, 1) := by decide +kernel
theorem d_L_law_211 : decode cL_law 211 = .ok (.iload 4, 2) := by decide +kernel
theorem d_L_law_213 : decode cL_law 213 = .ok (.iconst 2, 1) := by decide +kernel
theorem d_L_law_214 : decode cL_law 214 = .ok (.iadd, 1) := by decide +kernel
theorem d_L_law_215 : decode cL_law 215 = .ok (.iaload, 1) := by decide +kernel
theorem d_L_law_216 : decode cL_law 216 = .ok (.invokevirtual 91, 3) := by decide +kernel
theorem d_L_law_219 : decode cL_law 219 = .ok (.istore 6, 2) := by decide +kernel
theorem d_L_law_221 : decode cL_law 221 = .ok (.aload_n 2, 1) := by decide +kernel
theorem d_L_law_222 : decode cL_law 222 = .ok (.invokevirtual 92, 3) := by decide +kernel
theorem d_L_law_225 : decode cL_law 225 = .ok (.iload 5, 2) := by decide +kernel
theorem d_L_law_227 : decode cL_law 227 = .ok (.if_icmp .eq 5, 3) := by decide +kernel
theorem d_L_law_230 : decode cL_law 230 = .ok (.iconst 0, 1) := by decide +kernel
theorem d_L_law_231 : decode cL_law 231 = .ok (.ireturn, 1) := by decide +kernel
theorem d_L_law_232 : decode cL_law 232 = .ok (.iload 5, 2) := by decide +kernel
theorem d_L_law_234 : decode cL_law 234 = .ok (.ifCond .ne 15, 3) := by decide +kernel
theorem d_L_law_237 : decode cL_law 237 = .ok (.aload_n 3, 1) := by decide +kernel
theorem d_L_law_238 : decode cL_law 238 = .ok (.iconst 0, 1) := by decide +kernel
theorem d_L_law_239 : decode cL_law 239 = .ok (.laload, 1) := by decide +kernel
theorem d_L_law_240 : decode cL_law 240 = .ok (.iload 6, 2) := by decide +kernel
theorem d_L_law_242 : decode cL_law 242 = .ok (.i2l, 1) := by decide +kernel
theorem d_L_law_243 : decode cL_law 243 = .ok (.lcmp, 1) := by decide +kernel
theorem d_L_law_244 : decode cL_law 244 = .ok (.ifCond .eq 5, 3) := by decide +kernel
theorem d_L_law_247 : decode cL_law 247 = .ok (.iconst 0, 1) := by decide +kernel
theorem d_L_law_248 : decode cL_law 248 = .ok (.ireturn, 1) := by decide +kernel
theorem d_L_law_249 : decode cL_law 249 = .ok (.goto 1197, 3) := by decide +kernel
theorem d_L_law_252 : decode cL_law 252 = .ok (.aload_n 1, 1) := by decide +kernel
theorem d_L_law_253 : decode cL_law 253 = .ok (.aload_n 0, 1) := by decide +kernel
theorem d_L_law_254 : decode cL_law 254 = .ok (.iload 4, 2) := by decide +kernel
theorem d_L_law_256 : decode cL_law 256 = .ok (.iconst 1, 1) := by decide +kernel
theorem d_L_law_257 : decode cL_law 257 = .ok (.iadd, 1) := by decide +kernel
theorem d_L_law_258 : decode cL_law 258 = .ok (.iaload, 1) := by decide +kernel
theorem d_L_law_259 : decode cL_law 259 = .ok (.aload_n 0, 1) := by decide +kernel
theorem d_L_law_260 : decode cL_law 260 = .ok (.iload 4, 2) := by decide +kernel
theorem d_L_law_262 : decode cL_law 262 = .ok (.iconst 2, 1) := by decide +kernel
theorem d_L_law_263 : decode cL_law 263 = .ok (.iadd, 1) := by decide +kernel
theorem d_L_law_264 : decode cL_law 264 = .ok (.iaload, 1) := by decide +kernel
theorem d_L_law_265 : decode cL_law 265 = .ok (.aload_n 3, 1) := by decide +kernel
theorem d_L_law_266 : decode cL_law 266 = .ok (.invokestatic 95, 3) := by decide +kernel
theorem d_L_law_269 : decode cL_law 269 = .ok (.istore 5, 2) := by decide +kernel
theorem d_L_law_271 : decode cL_law 271 = .ok (.aload_n 2, 1) := by decide +kernel
theorem d_L_law_272 : decode cL_law 272 = .ok (.aload_n 0, 1) := by decide +kernel
theorem d_L_law_273 : decode cL_law 273 = .ok (.iload 4, 2) := by decide +kernel
theorem d_L_law_275 : decode cL_law 275 = .ok (.iconst 1, 1) := by decide +kernel
theorem d_L_law_276 : decode cL_law 276 = .ok (.iadd, 1) := by decide +kernel
theorem d_L_law_277 : decode cL_law 277 = .ok (.iaload, 1) := by decide +kernel
theorem d_L_law_278 : decode cL_law 278 = .ok (.aload_n 0, 1) := by decide +kernel
theorem d_L_law_279 : decode cL_law 279 = .ok (.iload 4, 2) := by decide +kernel
theorem d_L_law_281 : decode cL_law 281 = .ok (.iconst 2, 1) := by decide +kernel
theorem d_L_law_282 : decode cL_law 282 = .ok (.iadd, 1) := by decide +kernel
theorem d_L_law_283 : decode cL_law 283 = .ok (.iaload, 1) := by decide +kernel
theorem d_L_law_284 : decode cL_law 284 = .ok (.invokevirtual 97, 3) := by decide +kernel
theorem d_L_law_287 : decode cL_law 287 = .ok (.istore 6, 2) := by decide +kernel
theorem d_L_law_289 : decode cL_law 289 = .ok (.aload_n 2, 1) := by decide +kernel
theorem d_L_law_290 : decode cL_law 290 = .ok (.invokevirtual 92, 3) := by decide +kernel
theorem d_L_law_293 : decode cL_law 293 = .ok (.iload 5, 2) := by decide +kernel
theorem d_L_law_295 : decode cL_law 295 = .ok (.if_icmp .eq 5, 3) := by decide +kernel
theorem d_L_law_298 : decode cL_law 298 = .ok (.iconst 0, 1) := by decide +kernel
theorem d_L_law_299 : decode cL_law 299 = .ok (.ireturn, 1) := by decide +kernel
theorem d_L_law_300 : decode cL_law 300 = .ok (.iload 5, 2) := by decide +kernel
theorem d_L_law_302 : decode cL_law 302 = .ok (.ifCond .ne 15, 3) := by decide +kernel
theorem d_L_law_305 : decode cL_law 305 = .ok (.aload_n 3, 1) := by decide +kernel
theorem d_L_law_306 : decode cL_law 306 = .ok (.iconst 0, 1) := by decide +kernel
theorem d_L_law_307 : decode cL_law 307 = .ok (.laload, 1) := by decide +kernel
theorem d_L_law_308 : decode cL_law 308 = .ok (.iload 6, 2) := by decide +kernel
theorem d_L_law_310 : decode cL_law 310 = .ok (.i2l, 1) := by decide +kernel
theorem d_L_law_311 : decode cL_law 311 = .ok (.lcmp, 1) := by decide +kernel
theorem d_L_law_312 : decode cL_law 312 = .ok (.ifCond .eq 5, 3) := by decide +kernel
theorem d_L_law_315 : decode cL_law 315 = .ok (.iconst 0, 1) := by decide +kernel
theorem d_L_law_316 : decode cL_law 316 = .ok (.ireturn, 1) := by decide +kernel
theorem d_L_law_317 : decode cL_law 317 = .ok (.goto 1129, 3) := by decide +kernel
theorem d_L_law_320 : decode cL_law 320 = .ok (.aload_n 1, 1) := by decide +kernel
theorem d_L_law_321 : decode cL_law 321 = .ok (.invokevirtual 98, 3) := by decide +kernel
theorem d_L_law_324 : decode cL_law 324 = .ok (.aload_n 2, 1) := by decide +kernel
theorem d_L_law_325 : decode cL_law 325 = .ok (.invokevirtual 101, 3) := by decide +kernel
theorem d_L_law_328 : decode cL_law 328 = .ok (.if_icmp .eq 1118, 3) := by decide +kernel
theorem d_L_law_331 : decode cL_law 331 = .ok (.iconst 0, 1) := by decide +kernel
theorem d_L_law_332 : decode cL_law 332 = .ok (.ireturn, 1) := by decide +kernel
theorem d_L_law_333 : decode cL_law 333 = .ok (.aload_n 1, 1) := by decide +kernel
theorem d_L_law_334 : decode cL_law 334 = .ok (.aload_n 0, 1) := by decide +kernel
theorem d_L_law_335 : decode cL_law 335 = .ok (.iload 4, 2) := by decide +kernel
theorem d_L_law_337 : decode cL_law 337 = .ok (.iconst 1, 1) := by decide +kernel
theorem d_L_law_338 : decode cL_law 338 = .ok (.iadd, 1) := by decide +kernel
theorem d_L_law_339 : decode cL_law 339 = .ok (.iaload, 1) := by decide +kernel
theorem d_L_law_340 : decode cL_law 340 = .ok (.aload_n 3, 1) := by decide +kernel
theorem d_L_law_341 : decode cL_law 341 = .ok (.invokestatic 102, 3) := by decide +kernel
theorem d_L_law_344 : decode cL_law 344 = .ok (.istore 5, 2) := by decide +kernel
theorem d_L_law_346 : decode cL_law 346 = .ok (.aload_n 2, 1) := by decide +kernel
theorem d_L_law_347 : decode cL_law 347 = .ok (.aload_n 0, 1) := by decide +kernel
theorem d_L_law_348 : decode cL_law 348 = .ok (.iload 4, 2) := by decide +kernel
theorem d_L_law_350 : decode cL_law 350 = .ok (.iconst 1, 1) := by decide +kernel
theorem d_L_law_351 : decode cL_law 351 = .ok (.iadd, 1) := by decide +kernel
theorem d_L_law_352 : decode cL_law 352 = .ok (.iaload, 1) := by decide +kernel
theorem d_L_law_353 : decode cL_law 353 = .ok (.invokevirtual 105, 3) := by decide +kernel
theorem d_L_law_356 : decode cL_law 356 = .ok (.istore 6, 2) := by decide +kernel
theorem d_L_law_358 : decode cL_law 358 = .ok (.aload_n 2, 1) := by decide +kernel
theorem d_L_law_359 : decode cL_law 359 = .ok (.invokevirtual 92, 3) := by decide +kernel
theorem d_L_law_362 : decode cL_law 362 = .ok (.iload 5, 2) := by decide +kernel
theorem d_L_law_364 : decode cL_law 364 = .ok (.if_icmp .eq 5, 3) := by decide +kernel
theorem d_L_law_367 : decode cL_law 367 = .ok (.iconst 0, 1) := by decide +kernel
theorem d_L_law_368 : decode cL_law 368 = .ok (.ireturn, 1) := by decide +kernel
theorem d_L_law_369 : decode cL_law 369 = .ok (.iload 5, 2) := by decide +kernel
theorem d_L_law_371 : decode cL_law 371 = .ok (.ifCond .ne 15, 3) := by decide +kernel
theorem d_L_law_374 : decode cL_law 374 = .ok (.aload_n 3, 1) := by decide +kernel
theorem d_L_law_375 : decode cL_law 375 = .ok (.iconst 0, 1) := by decide +kernel
theorem d_L_law_376 : decode cL_law 376 = .ok (.laload, 1) := by decide +kernel
theorem d_L_law_377 : decode cL_law 377 = .ok (.iload 6, 2) := by decide +kernel
theorem d_L_law_379 : decode cL_law 379 = .ok (.i2l, 1) := by decide +kernel
theorem d_L_law_380 : decode cL_law 380 = .ok (.lcmp, 1) := by decide +kernel
theorem d_L_law_381 : decode cL_law 381 = .ok (.ifCond .eq 5, 3) := by decide +kernel
theorem d_L_law_384 : decode cL_law 384 = .ok (.iconst 0, 1) := by decide +kernel
theorem d_L_law_385 : decode cL_law 385 = .ok (.ireturn, 1) := by decide +kernel
theorem d_L_law_386 : decode cL_law 386 = .ok (.goto 1060, 3) := by decide +kernel
theorem d_L_law_389 : decode cL_law 389 = .ok (.aload_n 1, 1) := by decide +kernel
theorem d_L_law_390 : decode cL_law 390 = .ok (.aload_n 3, 1) := by decide +kernel
theorem d_L_law_391 : decode cL_law 391 = .ok (.invokestatic 106, 3) := by decide +kernel
theorem d_L_law_394 : decode cL_law 394 = .ok (.istore 5, 2) := by decide +kernel
theorem d_L_law_396 : decode cL_law 396 = .ok (.aload_n 2, 1) := by decide +kernel
theorem d_L_law_397 : decode cL_law 397 = .ok (.invokevirtual 109, 3) := by decide +kernel
theorem d_L_law_400 : decode cL_law 400 = .ok (.istore 6, 2) := by decide +kernel
theorem d_L_law_402 : decode cL_law 402 = .ok (.aload_n 2, 1) := by decide +kernel
theorem d_L_law_403 : decode cL_law 403 = .ok (.invokevirtual 92, 3) := by decide +kernel
theorem d_L_law_406 : decode cL_law 406 = .ok (.iload 5, 2) := by decide +kernel
theorem d_L_law_408 : decode cL_law 408 = .ok (.if_icmp .eq 5, 3) := by decide +kernel
theorem d_L_law_411 : decode cL_law 411 = .ok (.iconst 0, 1) := by decide +kernel
theorem d_L_law_412 : decode cL_law 412 = .ok (.ireturn, 1) := by decide +kernel
theorem d_L_law_413 : decode cL_law 413 = .ok (.iload 5, 2) := by decide +kernel
theorem d_L_law_415 : decode cL_law 415 = .ok (.ifCond .ne 15, 3) := by decide +kernel
theorem d_L_law_418 : decode cL_law 418 = .ok (.aload_n 3, 1) := by decide +kernel
theorem d_L_law_419 : decode cL_law 419 = .ok (.iconst 0, 1) := by decide +kernel
theorem d_L_law_420 : decode cL_law 420 = .ok (.laload, 1) := by decide +kernel
theorem d_L_law_421 : decode cL_law 421 = .ok (.iload 6, 2) := by decide +kernel
theorem d_L_law_423 : decode cL_law 423 = .ok (.i2l, 1) := by decide +kernel
theorem d_L_law_424 : decode cL_law 424 = .ok (.lcmp, 1) := by decide +kernel
theorem d_L_law_425 : decode cL_law 425 = .ok (.ifCond .eq 5, 3) := by decide +kernel
theorem d_L_law_428 : decode cL_law 428 = .ok (.iconst 0, 1) := by decide +kernel
theorem d_L_law_429 : decode cL_law 429 = .ok (.ireturn, 1) := by decide +kernel
theorem d_L_law_430 : decode cL_law 430 = .ok (.goto 1016, 3) := by decide +kernel
theorem d_L_law_433 : decode cL_law 433 = .ok (.aload_n 1, 1) := by decide +kernel
theorem d_L_law_434 : decode cL_law 434 = .ok (.aload_n 0, 1) := by decide +kernel
theorem d_L_law_435 : decode cL_law 435 = .ok (.iload 4, 2) := by decide +kernel
theorem d_L_law_437 : decode cL_law 437 = .ok (.iconst 1, 1) := by decide +kernel
theorem d_L_law_438 : decode cL_law 438 = .ok (.iadd, 1) := by decide +kernel
theorem d_L_law_439 : decode cL_law 439 = .ok (.iaload, 1) := by decide +kernel
theorem d_L_law_440 : decode cL_law 440 = .ok (.i2c, 1) := by decide +kernel
theorem d_L_law_441 : decode cL_law 441 = .ok (.aload_n 3, 1) := by decide +kernel
theorem d_L_law_442 : decode cL_law 442 = .ok (.invokestatic 110, 3) := by decide +kernel
theorem d_L_law_445 : decode cL_law 445 = .ok (.istore 5, 2) := by decide +kernel
theorem d_L_law_447 : decode cL_law 447 = .ok (.aload_n 2, 1) := by decide +kernel
theorem d_L_law_448 : decode cL_law 448 = .ok (.aload_n 0, 1) := by decide +kernel
theorem d_L_law_449 : decode cL_law 449 = .ok (.iload 4, 2) := by decide +kernel
theorem d_L_law_451 : decode cL_law 451 = .ok (.iconst 1, 1) := by decide +kernel
theorem d_L_law_452 : decode cL_law 452 = .ok (.iadd, 1) := by decide +kernel
theorem d_L_law_453 : decode cL_law 453 = .ok (.iaload, 1) := by decide +kernel
theorem d_L_law_454 : decode cL_law 454 = .ok (.i2c, 1) := by decide +kernel
theorem d_L_law_455 : decode cL_law 455 = .ok (.invokevirtual 113, 3) := by decide +kernel
theorem d_L_law_458 : decode cL_law 458 = .ok (.istore 6, 2) := by decide +kernel
theorem d_L_law_460 : decode cL_law 460 = .ok (.aload_n 2, 1) := by decide +kernel
theorem d_L_law_461 : decode cL_law 461 = .ok (.invokevirtual 92, 3) := by decide +kernel
theorem d_L_law_464 : decode cL_law 464 = .ok (.iload 5, 2) := by decide +kernel
theorem d_L_law_466 : decode cL_law 466 = .ok (.if_icmp .eq 5, 3) := by decide +kernel
theorem d_L_law_469 : decode cL_law 469 = .ok (.iconst 0, 1) := by decide +kernel
theorem d_L_law_470 : decode cL_law 470 = .ok (.ireturn, 1) := by decide +kernel
theorem d_L_law_471 : decode cL_law 471 = .ok (.iload 5, 2) := by decide +kernel
theorem d_L_law_473 : decode cL_law 473 = .ok (.ifCond .ne 15, 3) := by decide +kernel
theorem d_L_law_476 : decode cL_law 476 = .ok (.aload_n 3, 1) := by decide +kernel
theorem d_L_law_477 : decode cL_law 477 = .ok (.iconst 0, 1) := by decide +kernel
theorem d_L_law_478 : decode cL_law 478 = .ok (.laload, 1) := by decide +kernel
theorem d_L_law_479 : decode cL_law 479 = .ok (.iload 6, 2) := by decide +kernel
theorem d_L_law_481 : decode cL_law 481 = .ok (.i2l, 1) := by decide +kernel
theorem d_L_law_482 : decode cL_law 482 = .ok (.lcmp, 1) := by decide +kernel
theorem d_L_law_483 : decode cL_law 483 = .ok (.ifCond .eq 5, 3) := by decide +kernel
theorem d_L_law_486 : decode cL_law 486 = .ok (.iconst 0, 1) := by decide +kernel
theorem d_L_law_487 : decode cL_law 487 = .ok (.ireturn, 1) := by decide +kernel
theorem d_L_law_488 : decode cL_law 488 = .ok (.goto 958, 3) := by decide +kernel
theorem d_L_law_491 : decode cL_law 491 = .ok (.aload_n 1, 1) := by decide +kernel
theorem d_L_law_492 : decode cL_law 492 = .ok (.invokevirtual 114, 3) := by decide +kernel
theorem d_L_law_495 : decode cL_law 495 = .ok (.aload_n 2, 1) := by decide +kernel
theorem d_L_law_496 : decode cL_law 496 = .ok (.invokevirtual 117, 3) := by decide +kernel
theorem d_L_law_499 : decode cL_law 499 = .ok (.if_icmp .eq 947, 3) := by decide +kernel
theorem d_L_law_502 : decode cL_law 502 = .ok (.iconst 0, 1) := by decide +kernel
theorem d_L_law_503 : decode cL_law 503 = .ok (.ireturn, 1) := by decide +kernel
theorem d_L_law_504 : decode cL_law 504 = .ok (.aload_n 1, 1) := by decide +kernel
theorem d_L_law_505 : decode cL_law 505 = .ok (.invokevirtual 118, 3) := by decide +kernel
theorem d_L_law_508 : decode cL_law 508 = .ok (.aload_n 2, 1) := by decide +kernel
theorem d_L_law_509 : decode cL_law 509 = .ok (.invokevirtual 121, 3) := by decide +kernel
theorem d_L_law_512 : decode cL_law 512 = .ok (.if_icmp .eq 934, 3) := by decide +kernel
theorem d_L_law_515 : decode cL_law 515 = .ok (.iconst 0, 1) := by decide +kernel
theorem d_L_law_516 : decode cL_law 516 = .ok (.ireturn, 1) := by decide +kernel
theorem d_L_law_517 : decode cL_law 517 = .ok (.aload_n 1, 1) := by decide +kernel
theorem d_L_law_518 : decode cL_law 518 = .ok (.aload_n 3, 1) := by decide +kernel
theorem d_L_law_519 : decode cL_law 519 = .ok (.invokestatic 122, 3) := by decide +kernel
theorem d_L_law_522 : decode cL_law 522 = .ok (.istore 5, 2) := by decide +kernel
theorem d_L_law_524 : decode cL_law 524 = .ok (.aload_n 2, 1) := by decide +kernel
theorem d_L_law_525 : decode cL_law 525 = .ok (.invokevirtual 124, 3) := by decide +kernel
theorem d_L_law_528 : decode cL_law 528 = .ok (.istore 6, 2) := by decide +kernel
theorem d_L_law_530 : decode cL_law 530 = .ok (.aload_n 2, 1) := by decide +kernel
theorem d_L_law_531 : decode cL_law 531 = .ok (.invokevirtual 92, 3) := by decide +kernel
theorem d_L_law_534 : decode cL_law 534 = .ok (.iload 5, 2) := by decide +kernel
theorem d_L_law_536 : decode cL_law 536 = .ok (.if_icmp .eq 5, 3) := by decide +kernel
theorem d_L_law_539 : decode cL_law 539 = .ok (.iconst 0, 1) := by decide +kernel
theorem d_L_law_540 : decode cL_law 540 = .ok (.ireturn, 1) := by decide +kernel
theorem d_L_law_541 : decode cL_law 541 = .ok (.iload 5, 2) := by decide +kernel
theorem d_L_law_543 : decode cL_law 543 = .ok (.ifCond .ne 15, 3) := by decide +kernel
theorem d_L_law_546 : decode cL_law 546 = .ok (.aload_n 3, 1) := by decide +kernel
theorem d_L_law_547 : decode cL_law 547 = .ok (.iconst 0, 1) := by decide +kernel
theorem d_L_law_548 : decode cL_law 548 = .ok (.laload, 1) := by decide +kernel
theorem d_L_law_549 : decode cL_law 549 = .ok (.iload 6, 2) := by decide +kernel
theorem d_L_law_551 : decode cL_law 551 = .ok (.i2l, 1) := by decide +kernel
theorem d_L_law_552 : decode cL_law 552 = .ok (.lcmp, 1) := by decide +kernel
theorem d_L_law_553 : decode cL_law 553 = .ok (.ifCond .eq 5, 3) := by decide +kernel
theorem d_L_law_556 : decode cL_law 556 = .ok (.iconst 0, 1) := by decide +kernel
theorem d_L_law_557 : decode cL_law 557 = .ok (.ireturn, 1) := by decide +kernel
theorem d_L_law_558 : decode cL_law 558 = .ok (.goto 888, 3) := by decide +kernel
theorem d_L_law_561 : decode cL_law 561 = .ok (.aload_n 1, 1) := by decide +kernel
theorem d_L_law_562 : decode cL_law 562 = .ok (.aload_n 3, 1) := by decide +kernel
theorem d_L_law_563 : decode cL_law 563 = .ok (.invokestatic 125, 3) := by decide +kernel
theorem d_L_law_566 : decode cL_law 566 = .ok (.istore 5, 2) := by decide +kernel
theorem d_L_law_568 : decode cL_law 568 = .ok (.aload_n 2, 1) := by decide +kernel
theorem d_L_law_569 : decode cL_law 569 = .ok (.invokevirtual 127, 3) := by decide +kernel
theorem d_L_law_572 : decode cL_law 572 = .ok (.istore 6, 2) := by decide +kernel
theorem d_L_law_574 : decode cL_law 574 = .ok (.aload_n 2, 1) := by decide +kernel
theorem d_L_law_575 : decode cL_law 575 = .ok (.invokevirtual 92, 3) := by decide +kernel
theorem d_L_law_578 : decode cL_law 578 = .ok (.iload 5, 2) := by decide +kernel
theorem d_L_law_580 : decode cL_law 580 = .ok (.if_icmp .eq 5, 3) := by decide +kernel
theorem d_L_law_583 : decode cL_law 583 = .ok (.iconst 0, 1) := by decide +kernel
theorem d_L_law_584 : decode cL_law 584 = .ok (.ireturn, 1) := by decide +kernel
theorem d_L_law_585 : decode cL_law 585 = .ok (.iload 5, 2) := by decide +kernel
theorem d_L_law_587 : decode cL_law 587 = .ok (.ifCond .ne 15, 3) := by decide +kernel
theorem d_L_law_590 : decode cL_law 590 = .ok (.aload_n 3, 1) := by decide +kernel
theorem d_L_law_591 : decode cL_law 591 = .ok (.iconst 0, 1) := by decide +kernel
theorem d_L_law_592 : decode cL_law 592 = .ok (.laload, 1) := by decide +kernel
theorem d_L_law_593 : decode cL_law 593 = .ok (.iload 6, 2) := by decide +kernel
theorem d_L_law_595 : decode cL_law 595 = .ok (.i2l, 1) := by decide +kernel
theorem d_L_law_596 : decode cL_law 596 = .ok (.lcmp, 1) := by decide +kernel
theorem d_L_law_597 : decode cL_law 597 = .ok (.ifCond .eq 5, 3) := by decide +kernel
theorem d_L_law_600 : decode cL_law 600 = .ok (.iconst 0, 1) := by decide +kernel
theorem d_L_law_601 : decode cL_law 601 = .ok (.ireturn, 1) := by decide +kernel
theorem d_L_law_602 : decode cL_law 602 = .ok (.goto 844, 3) := by decide +kernel
theorem d_L_law_605 : decode cL_law 605 = .ok (.aload_n 1, 1) := by decide +kernel
theorem d_L_law_606 : decode cL_law 606 = .ok (.aload_n 3, 1) := by decide +kernel
theorem d_L_law_607 : decode cL_law 607 = .ok (.invokestatic 128, 3) := by decide +kernel
theorem d_L_law_610 : decode cL_law 610 = .ok (.istore 5, 2) := by decide +kernel
theorem d_L_law_612 : decode cL_law 612 = .ok (.aload_n 2, 1) := by decide +kernel
theorem d_L_law_613 : decode cL_law 613 = .ok (.invokevirtual 130, 3) := by decide +kernel
theorem d_L_law_616 : decode cL_law 616 = .ok (.istore 6, 2) := by decide +kernel
theorem d_L_law_618 : decode cL_law 618 = .ok (.aload_n 2, 1) := by decide +kernel
theorem d_L_law_619 : decode cL_law 619 = .ok (.invokevirtual 92, 3) := by decide +kernel
theorem d_L_law_622 : decode cL_law 622 = .ok (.iload 5, 2) := by decide +kernel
theorem d_L_law_624 : decode cL_law 624 = .ok (.if_icmp .eq 5, 3) := by decide +kernel
theorem d_L_law_627 : decode cL_law 627 = .ok (.iconst 0, 1) := by decide +kernel
theorem d_L_law_628 : decode cL_law 628 = .ok (.ireturn, 1) := by decide +kernel
theorem d_L_law_629 : decode cL_law 629 = .ok (.iload 5, 2) := by decide +kernel
theorem d_L_law_631 : decode cL_law 631 = .ok (.ifCond .ne 15, 3) := by decide +kernel
theorem d_L_law_634 : decode cL_law 634 = .ok (.aload_n 3, 1) := by decide +kernel
theorem d_L_law_635 : decode cL_law 635 = .ok (.iconst 0, 1) := by decide +kernel
theorem d_L_law_636 : decode cL_law 636 = .ok (.laload, 1) := by decide +kernel
theorem d_L_law_637 : decode cL_law 637 = .ok (.iload 6, 2) := by decide +kernel
theorem d_L_law_639 : decode cL_law 639 = .ok (.i2l, 1) := by decide +kernel
theorem d_L_law_640 : decode cL_law 640 = .ok (.lcmp, 1) := by decide +kernel
theorem d_L_law_641 : decode cL_law 641 = .ok (.ifCond .eq 5, 3) := by decide +kernel
theorem d_L_law_644 : decode cL_law 644 = .ok (.iconst 0, 1) := by decide +kernel
theorem d_L_law_645 : decode cL_law 645 = .ok (.ireturn, 1) := by decide +kernel
theorem d_L_law_646 : decode cL_law 646 = .ok (.goto 800, 3) := by decide +kernel
theorem d_L_law_649 : decode cL_law 649 = .ok (.aload_n 1, 1) := by decide +kernel
theorem d_L_law_650 : decode cL_law 650 = .ok (.invokevirtual 131, 3) := by decide +kernel
theorem d_L_law_653 : decode cL_law 653 = .ok (.aload_n 2, 1) := by decide +kernel
theorem d_L_law_654 : decode cL_law 654 = .ok (.invokevirtual 134, 3) := by decide +kernel
theorem d_L_law_657 : decode cL_law 657 = .ok (.if_icmp .eq 789, 3) := by decide +kernel
theorem d_L_law_660 : decode cL_law 660 = .ok (.iconst 0, 1) := by decide +kernel
theorem d_L_law_661 : decode cL_law 661 = .ok (.ireturn, 1) := by decide +kernel
theorem d_L_law_662 : decode cL_law 662 = .ok (.aload_n 1, 1) := by decide +kernel
theorem d_L_law_663 : decode cL_law 663 = .ok (.aload_n 3, 1) := by decide +kernel
theorem d_L_law_664 : decode cL_law 664 = .ok (.invokestatic 135, 3) := by decide +kernel
theorem d_L_law_667 : decode cL_law 667 = .ok (.istore 5, 2) := by decide +kernel
theorem d_L_law_669 : decode cL_law 669 = .ok (.aload_n 2, 1) := by decide +kernel
theorem d_L_law_670 : decode cL_law 670 = .ok (.invokevirtual 137, 3) := by decide +kernel
theorem d_L_law_673 : decode cL_law 673 = .ok (.istore 6, 2) := by decide +kernel
theorem d_L_law_675 : decode cL_law 675 = .ok (.aload_n 2, 1) := by decide +kernel
theorem d_L_law_676 : decode cL_law 676 = .ok (.invokevirtual 92, 3) := by decide +kernel
theorem d_L_law_679 : decode cL_law 679 = .ok (.iload 5, 2) := by decide +kernel
theorem d_L_law_681 : decode cL_law 681 = .ok (.if_icmp .eq 5, 3) := by decide +kernel
theorem d_L_law_684 : decode cL_law 684 = .ok (.iconst 0, 1) := by decide +kernel
theorem d_L_law_685 : decode cL_law 685 = .ok (.ireturn, 1) := by decide +kernel
theorem d_L_law_686 : decode cL_law 686 = .ok (.iload 5, 2) := by decide +kernel
theorem d_L_law_688 : decode cL_law 688 = .ok (.ifCond .ne 15, 3) := by decide +kernel
theorem d_L_law_691 : decode cL_law 691 = .ok (.aload_n 3, 1) := by decide +kernel
theorem d_L_law_692 : decode cL_law 692 = .ok (.iconst 0, 1) := by decide +kernel
theorem d_L_law_693 : decode cL_law 693 = .ok (.laload, 1) := by decide +kernel
theorem d_L_law_694 : decode cL_law 694 = .ok (.iload 6, 2) := by decide +kernel
theorem d_L_law_696 : decode cL_law 696 = .ok (.i2l, 1) := by decide +kernel
theorem d_L_law_697 : decode cL_law 697 = .ok (.lcmp, 1) := by decide +kernel
theorem d_L_law_698 : decode cL_law 698 = .ok (.ifCond .eq 5, 3) := by decide +kernel
theorem d_L_law_701 : decode cL_law 701 = .ok (.iconst 0, 1) := by decide +kernel
theorem d_L_law_702 : decode cL_law 702 = .ok (.ireturn, 1) := by decide +kernel
theorem d_L_law_703 : decode cL_law 703 = .ok (.goto 743, 3) := by decide +kernel
theorem d_L_law_706 : decode cL_law 706 = .ok (.aload_n 1, 1) := by decide +kernel
theorem d_L_law_707 : decode cL_law 707 = .ok (.invokevirtual 138, 3) := by decide +kernel
theorem d_L_law_710 : decode cL_law 710 = .ok (.aload_n 2, 1) := by decide +kernel
theorem d_L_law_711 : decode cL_law 711 = .ok (.invokevirtual 141, 3) := by decide +kernel
theorem d_L_law_714 : decode cL_law 714 = .ok (.if_icmp .eq 732, 3) := by decide +kernel
theorem d_L_law_717 : decode cL_law 717 = .ok (.iconst 0, 1) := by decide +kernel
theorem d_L_law_718 : decode cL_law 718 = .ok (.ireturn, 1) := by decide +kernel
theorem d_L_law_719 : decode cL_law 719 = .ok (.aload_n 1, 1) := by decide +kernel
theorem d_L_law_720 : decode cL_law 720 = .ok (.aload_n 0, 1) := by decide +kernel
theorem d_L_law_721 : decode cL_law 721 = .ok (.iload 4, 2) := by decide +kernel
theorem d_L_law_723 : decode cL_law 723 = .ok (.iconst 1, 1) := by decide +kernel
theorem d_L_law_724 : decode cL_law 724 = .ok (.iadd, 1) := by decide +kernel
theorem d_L_law_725 : decode cL_law 725 = .ok (.iaload, 1) := by decide +kernel
theorem d_L_law_726 : decode cL_law 726 = .ok (.aload_n 3, 1) := by decide +kernel
theorem d_L_law_727 : decode cL_law 727 = .ok (.invokestatic 142, 3) := by decide +kernel
theorem d_L_law_730 : decode cL_law 730 = .ok (.istore 5, 2) := by decide +kernel
theorem d_L_law_732 : decode cL_law 732 = .ok (.aload_n 2, 1) := by decide +kernel
theorem d_L_law_733 : decode cL_law 733 = .ok (.aload_n 0, 1) := by decide +kernel
theorem d_L_law_734 : decode cL_law 734 = .ok (.iload 4, 2) := by decide +kernel
theorem d_L_law_736 : decode cL_law 736 = .ok (.iconst 1, 1) := by decide +kernel
theorem d_L_law_737 : decode cL_law 737 = .ok (.iadd, 1) := by decide +kernel
theorem d_L_law_738 : decode cL_law 738 = .ok (.iaload, 1) := by decide +kernel
theorem d_L_law_739 : decode cL_law 739 = .ok (.invokevirtual 144, 3) := by decide +kernel
theorem d_L_law_742 : decode cL_law 742 = .ok (.istore 6, 2) := by decide +kernel
theorem d_L_law_744 : decode cL_law 744 = .ok (.aload_n 2, 1) := by decide +kernel
theorem d_L_law_745 : decode cL_law 745 = .ok (.invokevirtual 92, 3) := by decide +kernel
theorem d_L_law_748 : decode cL_law 748 = .ok (.iload 5, 2) := by decide +kernel
theorem d_L_law_750 : decode cL_law 750 = .ok (.if_icmp .eq 5, 3) := by decide +kernel
theorem d_L_law_753 : decode cL_law 753 = .ok (.iconst 0, 1) := by decide +kernel
theorem d_L_law_754 : decode cL_law 754 = .ok (.ireturn, 1) := by decide +kernel
theorem d_L_law_755 : decode cL_law 755 = .ok (.iload 5, 2) := by decide +kernel
theorem d_L_law_757 : decode cL_law 757 = .ok (.ifCond .ne 15, 3) := by decide +kernel
theorem d_L_law_760 : decode cL_law 760 = .ok (.aload_n 3, 1) := by decide +kernel
theorem d_L_law_761 : decode cL_law 761 = .ok (.iconst 0, 1) := by decide +kernel
theorem d_L_law_762 : decode cL_law 762 = .ok (.laload, 1) := by decide +kernel
theorem d_L_law_763 : decode cL_law 763 = .ok (.iload 6, 2) := by decide +kernel
theorem d_L_law_765 : decode cL_law 765 = .ok (.i2l, 1) := by decide +kernel
theorem d_L_law_766 : decode cL_law 766 = .ok (.lcmp, 1) := by decide +kernel
theorem d_L_law_767 : decode cL_law 767 = .ok (.ifCond .eq 5, 3) := by decide +kernel
theorem d_L_law_770 : decode cL_law 770 = .ok (.iconst 0, 1) := by decide +kernel
theorem d_L_law_771 : decode cL_law 771 = .ok (.ireturn, 1) := by decide +kernel
theorem d_L_law_772 : decode cL_law 772 = .ok (.goto 674, 3) := by decide +kernel
theorem d_L_law_775 : decode cL_law 775 = .ok (.aload_n 1, 1) := by decide +kernel
theorem d_L_law_776 : decode cL_law 776 = .ok (.aload_n 0, 1) := by decide +kernel
theorem d_L_law_777 : decode cL_law 777 = .ok (.iload 4, 2) := by decide +kernel
theorem d_L_law_779 : decode cL_law 779 = .ok (.iconst 1, 1) := by decide +kernel
theorem d_L_law_780 : decode cL_law 780 = .ok (.iadd, 1) := by decide +kernel
theorem d_L_law_781 : decode cL_law 781 = .ok (.iaload, 1) := by decide +kernel
theorem d_L_law_782 : decode cL_law 782 = .ok (.aload_n 3, 1) := by decide +kernel
theorem d_L_law_783 : decode cL_law 783 = .ok (.invokestatic 145, 3) := by decide +kernel
theorem d_L_law_786 : decode cL_law 786 = .ok (.istore 5, 2) := by decide +kernel
theorem d_L_law_788 : decode cL_law 788 = .ok (.aload_n 2, 1) := by decide +kernel
theorem d_L_law_789 : decode cL_law 789 = .ok (.aload_n 0, 1) := by decide +kernel
theorem d_L_law_790 : decode cL_law 790 = .ok (.iload 4, 2) := by decide +kernel
theorem d_L_law_792 : decode cL_law 792 = .ok (.iconst 1, 1) := by decide +kernel
theorem d_L_law_793 : decode cL_law 793 = .ok (.iadd, 1) := by decide +kernel
theorem d_L_law_794 : decode cL_law 794 = .ok (.iaload, 1) := by decide +kernel
theorem d_L_law_795 : decode cL_law 795 = .ok (.invokevirtual 147, 3) := by decide +kernel
theorem d_L_law_798 : decode cL_law 798 = .ok (.istore 6, 2) := by decide +kernel
theorem d_L_law_800 : decode cL_law 800 = .ok (.aload_n 2, 1) := by decide +kernel
theorem d_L_law_801 : decode cL_law 801 = .ok (.invokevirtual 92, 3) := by decide +kernel
theorem d_L_law_804 : decode cL_law 804 = .ok (.iload 5, 2) := by decide +kernel
theorem d_L_law_806 : decode cL_law 806 = .ok (.if_icmp .eq 5, 3) := by decide +kernel
theorem d_L_law_809 : decode cL_law 809 = .ok (.iconst 0, 1) := by decide +kernel
theorem d_L_law_810 : decode cL_law 810 = .ok (.ireturn, 1) := by decide +kernel
theorem d_L_law_811 : decode cL_law 811 = .ok (.iload 5, 2) := by decide +kernel
theorem d_L_law_813 : decode cL_law 813 = .ok (.ifCond .ne 15, 3) := by decide +kernel
theorem d_L_law_816 : decode cL_law 816 = .ok (.aload_n 3, 1) := by decide +kernel
theorem d_L_law_817 : decode cL_law 817 = .ok (.iconst 0, 1) := by decide +kernel
theorem d_L_law_818 : decode cL_law 818 = .ok (.laload, 1) := by decide +kernel
theorem d_L_law_819 : decode cL_law 819 = .ok (.iload 6, 2) := by decide +kernel
theorem d_L_law_821 : decode cL_law 821 = .ok (.i2l, 1) := by decide +kernel
theorem d_L_law_822 : decode cL_law 822 = .ok (.lcmp, 1) := by decide +kernel
theorem d_L_law_823 : decode cL_law 823 = .ok (.ifCond .eq 5, 3) := by decide +kernel
theorem d_L_law_826 : decode cL_law 826 = .ok (.iconst 0, 1) := by decide +kernel
theorem d_L_law_827 : decode cL_law 827 = .ok (.ireturn, 1) := by decide +kernel
theorem d_L_law_828 : decode cL_law 828 = .ok (.goto 618, 3) := by decide +kernel
theorem d_L_law_831 : decode cL_law 831 = .ok (.aload_n 1, 1) := by decide +kernel
theorem d_L_law_832 : decode cL_law 832 = .ok (.aload_n 0, 1) := by decide +kernel
theorem d_L_law_833 : decode cL_law 833 = .ok (.iload 4, 2) := by decide +kernel
theorem d_L_law_835 : decode cL_law 835 = .ok (.iconst 1, 1) := by decide +kernel
theorem d_L_law_836 : decode cL_law 836 = .ok (.iadd, 1) := by decide +kernel
theorem d_L_law_837 : decode cL_law 837 = .ok (.iaload, 1) := by decide +kernel
theorem d_L_law_838 : decode cL_law 838 = .ok (.aload_n 0, 1) := by decide +kernel
theorem d_L_law_839 : decode cL_law 839 = .ok (.iload 4, 2) := by decide +kernel
theorem d_L_law_841 : decode cL_law 841 = .ok (.iconst 2, 1) := by decide +kernel
theorem d_L_law_842 : decode cL_law 842 = .ok (.iadd, 1) := by decide +kernel
theorem d_L_law_843 : decode cL_law 843 = .ok (.iaload, 1) := by decide +kernel
theorem d_L_law_844 : decode cL_law 844 = .ok (.aload_n 3, 1) := by decide +kernel
theorem d_L_law_845 : decode cL_law 845 = .ok (.invokestatic 148, 3) := by decide +kernel
theorem d_L_law_848 : decode cL_law 848 = .ok (.istore 5, 2) := by decide +kernel
theorem d_L_law_850 : decode cL_law 850 = .ok (.aload_n 2, 1) := by decide +kernel
theorem d_L_law_851 : decode cL_law 851 = .ok (.aload_n 0, 1) := by decide +kernel
theorem d_L_law_852 : decode cL_law 852 = .ok (.iload 4, 2) := by decide +kernel
theorem d_L_law_854 : decode cL_law 854 = .ok (.iconst 1, 1) := by decide +kernel
theorem d_L_law_855 : decode cL_law 855 = .ok (.iadd, 1) := by decide +kernel
theorem d_L_law_856 : decode cL_law 856 = .ok (.iaload, 1) := by decide +kernel
theorem d_L_law_857 : decode cL_law 857 = .ok (.aload_n 0, 1) := by decide +kernel
theorem d_L_law_858 : decode cL_law 858 = .ok (.iload 4, 2) := by decide +kernel
theorem d_L_law_860 : decode cL_law 860 = .ok (.iconst 2, 1) := by decide +kernel
theorem d_L_law_861 : decode cL_law 861 = .ok (.iadd, 1) := by decide +kernel
theorem d_L_law_862 : decode cL_law 862 = .ok (.iaload, 1) := by decide +kernel
theorem d_L_law_863 : decode cL_law 863 = .ok (.invokevirtual 150, 3) := by decide +kernel
theorem d_L_law_866 : decode cL_law 866 = .ok (.istore 6, 2) := by decide +kernel
theorem d_L_law_868 : decode cL_law 868 = .ok (.aload_n 2, 1) := by decide +kernel
theorem d_L_law_869 : decode cL_law 869 = .ok (.invokevirtual 92, 3) := by decide +kernel
theorem d_L_law_872 : decode cL_law 872 = .ok (.iload 5, 2) := by decide +kernel
theorem d_L_law_874 : decode cL_law 874 = .ok (.if_icmp .eq 5, 3) := by decide +kernel
theorem d_L_law_877 : decode cL_law 877 = .ok (.iconst 0, 1) := by decide +kernel
theorem d_L_law_878 : decode cL_law 878 = .ok (.ireturn, 1) := by decide +kernel
theorem d_L_law_879 : decode cL_law 879 = .ok (.iload 5, 2) := by decide +kernel
theorem d_L_law_881 : decode cL_law 881 = .ok (.ifCond .ne 15, 3) := by decide +kernel
theorem d_L_law_884 : decode cL_law 884 = .ok (.aload_n 3, 1) := by decide +kernel
theorem d_L_law_885 : decode cL_law 885 = .ok (.iconst 0, 1) := by decide +kernel
theorem d_L_law_886 : decode cL_law 886 = .ok (.laload, 1) := by decide +kernel
theorem d_L_law_887 : decode cL_law 887 = .ok (.iload 6, 2) := by decide +kernel
theorem d_L_law_889 : decode cL_law 889 = .ok (.i2l, 1) := by decide +kernel
theorem d_L_law_890 : decode cL_law 890 = .ok (.lcmp, 1) := by decide +kernel
theorem d_L_law_891 : decode cL_law 891 = .ok (.ifCond .eq 5, 3) := by decide +kernel
theorem d_L_law_894 : decode cL_law 894 = .ok (.iconst 0, 1) := by decide +kernel
theorem d_L_law_895 : decode cL_law 895 = .ok (.ireturn, 1) := by decide +kernel
theorem d_L_law_896 : decode cL_law 896 = .ok (.goto 550, 3) := by decide +kernel
theorem d_L_law_899 : decode cL_law 899 = .ok (.aload_n 1, 1) := by decide +kernel
theorem d_L_law_900 : decode cL_law 900 = .ok (.aload_n 0, 1) := by decide +kernel
theorem d_L_law_901 : decode cL_law 901 = .ok (.iload 4, 2) := by decide +kernel
theorem d_L_law_903 : decode cL_law 903 = .ok (.iconst 1, 1) := by decide +kernel
theorem d_L_law_904 : decode cL_law 904 = .ok (.iadd, 1) := by decide +kernel
theorem d_L_law_905 : decode cL_law 905 = .ok (.iaload, 1) := by decide +kernel
theorem d_L_law_906 : decode cL_law 906 = .ok (.aload_n 0, 1) := by decide +kernel
theorem d_L_law_907 : decode cL_law 907 = .ok (.iload 4, 2) := by decide +kernel
theorem d_L_law_909 : decode cL_law 909 = .ok (.iconst 2, 1) := by decide +kernel
theorem d_L_law_910 : decode cL_law 910 = .ok (.iadd, 1) := by decide +kernel
theorem d_L_law_911 : decode cL_law 911 = .ok (.iaload, 1) := by decide +kernel
theorem d_L_law_912 : decode cL_law 912 = .ok (.aload_n 0, 1) := by decide +kernel
theorem d_L_law_913 : decode cL_law 913 = .ok (.iload 4, 2) := by decide +kernel
theorem d_L_law_915 : decode cL_law 915 = .ok (.iconst 3, 1) := by decide +kernel
theorem d_L_law_916 : decode cL_law 916 = .ok (.iadd, 1) := by decide +kernel
theorem d_L_law_917 : decode cL_law 917 = .ok (.iaload, 1) := by decide +kernel
theorem d_L_law_918 : decode cL_law 918 = .ok (.aload_n 3, 1) := by decide +kernel
theorem d_L_law_919 : decode cL_law 919 = .ok (.invokestatic 151, 3) := by decide +kernel
theorem d_L_law_922 : decode cL_law 922 = .ok (.istore 5, 2) := by decide +kernel
theorem d_L_law_924 : decode cL_law 924 = .ok (.aload_n 2, 1) := by decide +kernel
theorem d_L_law_925 : decode cL_law 925 = .ok (.aload_n 0, 1) := by decide +kernel
theorem d_L_law_926 : decode cL_law 926 = .ok (.iload 4, 2) := by decide +kernel
theorem d_L_law_928 : decode cL_law 928 = .ok (.iconst 1, 1) := by decide +kernel
theorem d_L_law_929 : decode cL_law 929 = .ok (.iadd, 1) := by decide +kernel
theorem d_L_law_930 : decode cL_law 930 = .ok (.iaload, 1) := by decide +kernel
theorem d_L_law_931 : decode cL_law 931 = .ok (.aload_n 0, 1) := by decide +kernel
theorem d_L_law_932 : decode cL_law 932 = .ok (.iload 4, 2) := by decide +kernel
theorem d_L_law_934 : decode cL_law 934 = .ok (.iconst 2, 1) := by decide +kernel
theorem d_L_law_935 : decode cL_law 935 = .ok (.iadd, 1) := by decide +kernel
theorem d_L_law_936 : decode cL_law 936 = .ok (.iaload, 1) := by decide +kernel
theorem d_L_law_937 : decode cL_law 937 = .ok (.aload_n 0, 1) := by decide +kernel
theorem d_L_law_938 : decode cL_law 938 = .ok (.iload 4, 2) := by decide +kernel
theorem d_L_law_940 : decode cL_law 940 = .ok (.iconst 3, 1) := by decide +kernel
theorem d_L_law_941 : decode cL_law 941 = .ok (.iadd, 1) := by decide +kernel
theorem d_L_law_942 : decode cL_law 942 = .ok (.iaload, 1) := by decide +kernel
theorem d_L_law_943 : decode cL_law 943 = .ok (.invokevirtual 154, 3) := by decide +kernel
theorem d_L_law_946 : decode cL_law 946 = .ok (.istore 6, 2) := by decide +kernel
theorem d_L_law_948 : decode cL_law 948 = .ok (.aload_n 2, 1) := by decide +kernel
theorem d_L_law_949 : decode cL_law 949 = .ok (.invokevirtual 92, 3) := by decide +kernel
theorem d_L_law_952 : decode cL_law 952 = .ok (.iload 5, 2) := by decide +kernel
theorem d_L_law_954 : decode cL_law 954 = .ok (.if_icmp .eq 5, 3) := by decide +kernel
theorem d_L_law_957 : decode cL_law 957 = .ok (.iconst 0, 1) := by decide +kernel
theorem d_L_law_958 : decode cL_law 958 = .ok (.ireturn, 1) := by decide +kernel
theorem d_L_law_959 : decode cL_law 959 = .ok (.iload 5, 2) := by decide +kernel
theorem d_L_law_961 : decode cL_law 961 = .ok (.ifCond .ne 15, 3) := by decide +kernel
theorem d_L_law_964 : decode cL_law 964 = .ok (.aload_n 3, 1) := by decide +kernel
theorem d_L_law_965 : decode cL_law 965 = .ok (.iconst 0, 1) := by decide +kernel
theorem d_L_law_966 : decode cL_law 966 = .ok (.laload, 1) := by decide +kernel
theorem d_L_law_967 : decode cL_law 967 = .ok (.iload 6, 2) := by decide +kernel
theorem d_L_law_969 : decode cL_law 969 = .ok (.i2l, 1) := by decide +kernel
theorem d_L_law_970 : decode cL_law 970 = .ok (.lcmp, 1) := by decide +kernel
theorem d_L_law_971 : decode cL_law 971 = .ok (.ifCond .eq 5, 3) := by decide +kernel
theorem d_L_law_974 : decode cL_law 974 = .ok (.iconst 0, 1) := by decide +kernel
theorem d_L_law_975 : decode cL_law 975 = .ok (.ireturn, 1) := by decide +kernel
theorem d_L_law_976 : decode cL_law 976 = .ok (.goto 470, 3) := by decide +kernel
theorem d_L_law_979 : decode cL_law 979 = .ok (.aload_n 1, 1) := by decide +kernel
theorem d_L_law_980 : decode cL_law 980 = .ok (.aload_n 0, 1) := by decide +kernel
theorem d_L_law_981 : decode cL_law 981 = .ok (.iload 4, 2) := by decide +kernel
theorem d_L_law_983 : decode cL_law 983 = .ok (.iconst 1, 1) := by decide +kernel
theorem d_L_law_984 : decode cL_law 984 = .ok (.iadd, 1) := by decide +kernel
theorem d_L_law_985 : decode cL_law 985 = .ok (.iaload, 1) := by decide +kernel
theorem d_L_law_986 : decode cL_law 986 = .ok (.aload_n 3, 1) := by decide +kernel
theorem d_L_law_987 : decode cL_law 987 = .ok (.invokestatic 155, 3) := by decide +kernel
theorem d_L_law_990 : decode cL_law 990 = .ok (.istore 5, 2) := by decide +kernel
theorem d_L_law_992 : decode cL_law 992 = .ok (.aload_n 2, 1) := by decide +kernel
theorem d_L_law_993 : decode cL_law 993 = .ok (.aload_n 0, 1) := by decide +kernel
theorem d_L_law_994 : decode cL_law 994 = .ok (.iload 4, 2) := by decide +kernel
theorem d_L_law_996 : decode cL_law 996 = .ok (.iconst 1, 1) := by decide +kernel
theorem d_L_law_997 : decode cL_law 997 = .ok (.iadd, 1) := by decide +kernel
theorem d_L_law_998 : decode cL_law 998 = .ok (.iaload, 1) := by decide +kernel
theorem d_L_law_999 : decode cL_law 999 = .ok (.invokevirtual 157, 3) := by decide +kernel
theorem d_L_law_1002 : decode cL_law 1002 = .ok (.istore 6, 2) := by decide +kernel
theorem d_L_law_1004 : decode cL_law 1004 = .ok (.aload_n 2, 1) := by decide +kernel
theorem d_L_law_1005 : decode cL_law 1005 = .ok (.invokevirtual 92, 3) := by decide +kernel
theorem d_L_law_1008 : decode cL_law 1008 = .ok (.iload 5, 2) := by decide +kernel
theorem d_L_law_1010 : decode cL_law 1010 = .ok (.if_icmp .eq 5, 3) := by decide +kernel
theorem d_L_law_1013 : decode cL_law 1013 = .ok (.iconst 0, 1) := by decide +kernel
theorem d_L_law_1014 : decode cL_law 1014 = .ok (.ireturn, 1) := by decide +kernel
theorem d_L_law_1015 : decode cL_law 1015 = .ok (.iload 5, 2) := by decide +kernel
theorem d_L_law_1017 : decode cL_law 1017 = .ok (.ifCond .ne 22, 3) := by decide +kernel
theorem d_L_law_1020 : decode cL_law 1020 = .ok (.aload_n 3, 1) := by decide +kernel
theorem d_L_law_1021 : decode cL_law 1021 = .ok (.iconst 0, 1) := by decide +kernel
theorem d_L_law_1022 : decode cL_law 1022 = .ok (.laload, 1) := by decide +kernel
theorem d_L_law_1023 : decode cL_law 1023 = .ok (.iload 6, 2) := by decide +kernel
theorem d_L_law_1025 : decode cL_law 1025 = .ok (.ifCond .eq 7, 3) := by decide +kernel
theorem d_L_law_1028 : decode cL_law 1028 = .ok (.lconst 1, 1) := by decide +kernel
theorem d_L_law_1029 : decode cL_law 1029 = .ok (.goto 4, 3) := by decide +kernel
theorem d_L_law_1032 : decode cL_law 1032 = .ok (.lconst 0, 1) := by decide +kernel
theorem d_L_law_1033 : decode cL_law 1033 = .ok (.lcmp, 1) := by decide +kernel
theorem d_L_law_1034 : decode cL_law 1034 = .ok (.ifCond .eq 5, 3) := by decide +kernel
theorem d_L_law_1037 : decode cL_law 1037 = .ok (.iconst 0, 1) := by decide +kernel
theorem d_L_law_1038 : decode cL_law 1038 = .ok (.ireturn, 1) := by decide +kernel
theorem d_L_law_1039 : decode cL_law 1039 = .ok (.goto 407, 3) := by decide +kernel
theorem d_L_law_1042 : decode cL_law 1042 = .ok (.aload_n 1, 1) := by decide +kernel
theorem d_L_law_1043 : decode cL_law 1043 = .ok (.aload_n 0, 1) := by decide +kernel
theorem d_L_law_1044 : decode cL_law 1044 = .ok (.iload 4, 2) := by decide +kernel
theorem d_L_law_1046 : decode cL_law 1046 = .ok (.iconst 1, 1) := by decide +kernel
theorem d_L_law_1047 : decode cL_law 1047 = .ok (.iadd, 1) := by decide +kernel
theorem d_L_law_1048 : decode cL_law 1048 = .ok (.iaload, 1) := by decide +kernel
theorem d_L_law_1049 : decode cL_law 1049 = .ok (.aload_n 3, 1) := by decide +kernel
theorem d_L_law_1050 : decode cL_law 1050 = .ok (.invokestatic 158, 3) := by decide +kernel
theorem d_L_law_1053 : decode cL_law 1053 = .ok (.istore 5, 2) := by decide +kernel
theorem d_L_law_1055 : decode cL_law 1055 = .ok (.aload_n 2, 1) := by decide +kernel
theorem d_L_law_1056 : decode cL_law 1056 = .ok (.aload_n 0, 1) := by decide +kernel
theorem d_L_law_1057 : decode cL_law 1057 = .ok (.iload 4, 2) := by decide +kernel
theorem d_L_law_1059 : decode cL_law 1059 = .ok (.iconst 1, 1) := by decide +kernel
theorem d_L_law_1060 : decode cL_law 1060 = .ok (.iadd, 1) := by decide +kernel
theorem d_L_law_1061 : decode cL_law 1061 = .ok (.iaload, 1) := by decide +kernel
theorem d_L_law_1062 : decode cL_law 1062 = .ok (.invokevirtual 160, 3) := by decide +kernel
theorem d_L_law_1065 : decode cL_law 1065 = .ok (.istore 6, 2) := by decide +kernel
theorem d_L_law_1067 : decode cL_law 1067 = .ok (.aload_n 2, 1) := by decide +kernel
theorem d_L_law_1068 : decode cL_law 1068 = .ok (.invokevirtual 92, 3) := by decide +kernel
theorem d_L_law_1071 : decode cL_law 1071 = .ok (.iload 5, 2) := by decide +kernel
theorem d_L_law_1073 : decode cL_law 1073 = .ok (.if_icmp .eq 5, 3) := by decide +kernel
theorem d_L_law_1076 : decode cL_law 1076 = .ok (.iconst 0, 1) := by decide +kernel
theorem d_L_law_1077 : decode cL_law 1077 = .ok (.ireturn, 1) := by decide +kernel
theorem d_L_law_1078 : decode cL_law 1078 = .ok (.iload 5, 2) := by decide +kernel
theorem d_L_law_1080 : decode cL_law 1080 = .ok (.ifCond .ne 15, 3) := by decide +kernel
theorem d_L_law_1083 : decode cL_law 1083 = .ok (.aload_n 3, 1) := by decide +kernel
theorem d_L_law_1084 : decode cL_law 1084 = .ok (.iconst 0, 1) := by decide +kernel
theorem d_L_law_1085 : decode cL_law 1085 = .ok (.laload, 1) := by decide +kernel
theorem d_L_law_1086 : decode cL_law 1086 = .ok (.iload 6, 2) := by decide +kernel
theorem d_L_law_1088 : decode cL_law 1088 = .ok (.i2l, 1) := by decide +kernel
theorem d_L_law_1089 : decode cL_law 1089 = .ok (.lcmp, 1) := by decide +kernel
theorem d_L_law_1090 : decode cL_law 1090 = .ok (.ifCond .eq 5, 3) := by decide +kernel
theorem d_L_law_1093 : decode cL_law 1093 = .ok (.iconst 0, 1) := by decide +kernel
theorem d_L_law_1094 : decode cL_law 1094 = .ok (.ireturn, 1) := by decide +kernel
theorem d_L_law_1095 : decode cL_law 1095 = .ok (.goto 351, 3) := by decide +kernel
theorem d_L_law_1098 : decode cL_law 1098 = .ok (.aload_n 1, 1) := by decide +kernel
theorem d_L_law_1099 : decode cL_law 1099 = .ok (.invokevirtual 161, 3) := by decide +kernel
theorem d_L_law_1102 : decode cL_law 1102 = .ok (.aload_n 2, 1) := by decide +kernel
theorem d_L_law_1103 : decode cL_law 1103 = .ok (.invokevirtual 164, 3) := by decide +kernel
theorem d_L_law_1106 : decode cL_law 1106 = .ok (.if_icmp .eq 340, 3) := by decide +kernel
theorem d_L_law_1109 : decode cL_law 1109 = .ok (.iconst 0, 1) := by decide +kernel
theorem d_L_law_1110 : decode cL_law 1110 = .ok (.ireturn, 1) := by decide +kernel
theorem d_L_law_1111 : decode cL_law 1111 = .ok (.aload_n 1, 1) := by decide +kernel
theorem d_L_law_1112 : decode cL_law 1112 = .ok (.aload_n 3, 1) := by decide +kernel
theorem d_L_law_1113 : decode cL_law 1113 = .ok (.invokestatic 165, 3) := by decide +kernel
theorem d_L_law_1116 : decode cL_law 1116 = .ok (.istore 5, 2) := by decide +kernel
theorem d_L_law_1118 : decode cL_law 1118 = .ok (.aload_n 2, 1) := by decide +kernel
theorem d_L_law_1119 : decode cL_law 1119 = .ok (.invokevirtual 167, 3) := by decide +kernel
theorem d_L_law_1122 : decode cL_law 1122 = .ok (.istore 6, 2) := by decide +kernel
theorem d_L_law_1124 : decode cL_law 1124 = .ok (.aload_n 2, 1) := by decide +kernel
theorem d_L_law_1125 : decode cL_law 1125 = .ok (.invokevirtual 92, 3) := by decide +kernel
theorem d_L_law_1128 : decode cL_law 1128 = .ok (.iload 5, 2) := by decide +kernel
theorem d_L_law_1130 : decode cL_law 1130 = .ok (.if_icmp .eq 5, 3) := by decide +kernel
theorem d_L_law_1133 : decode cL_law 1133 = .ok (.iconst 0, 1) := by decide +kernel
theorem d_L_law_1134 : decode cL_law 1134 = .ok (.ireturn, 1) := by decide +kernel
theorem d_L_law_1135 : decode cL_law 1135 = .ok (.iload 5, 2) := by decide +kernel
theorem d_L_law_1137 : decode cL_law 1137 = .ok (.ifCond .ne 15, 3) := by decide +kernel
theorem d_L_law_1140 : decode cL_law 1140 = .ok (.aload_n 3, 1) := by decide +kernel
theorem d_L_law_1141 : decode cL_law 1141 = .ok (.iconst 0, 1) := by decide +kernel
theorem d_L_law_1142 : decode cL_law 1142 = .ok (.laload, 1) := by decide +kernel
theorem d_L_law_1143 : decode cL_law 1143 = .ok (.iload 6, 2) := by decide +kernel
theorem d_L_law_1145 : decode cL_law 1145 = .ok (.i2l, 1) := by decide +kernel
theorem d_L_law_1146 : decode cL_law 1146 = .ok (.lcmp, 1) := by decide +kernel
theorem d_L_law_1147 : decode cL_law 1147 = .ok (.ifCond .eq 5, 3) := by decide +kernel
theorem d_L_law_1150 : decode cL_law 1150 = .ok (.iconst 0, 1) := by decide +kernel
theorem d_L_law_1151 : decode cL_law 1151 = .ok (.ireturn, 1) := by decide +kernel
theorem d_L_law_1152 : decode cL_law 1152 = .ok (.goto 294, 3) := by decide +kernel
theorem d_L_law_1155 : decode cL_law 1155 = .ok (.aload_n 1, 1) := by decide +kernel
theorem d_L_law_1156 : decode cL_law 1156 = .ok (.aload_n 3, 1) := by decide +kernel
theorem d_L_law_1157 : decode cL_law 1157 = .ok (.invokestatic 168, 3) := by decide +kernel
theorem d_L_law_1160 : decode cL_law 1160 = .ok (.istore 5, 2) := by decide +kernel
theorem d_L_law_1162 : decode cL_law 1162 = .ok (.aload_n 2, 1) := by decide +kernel
theorem d_L_law_1163 : decode cL_law 1163 = .ok (.invokevirtual 170, 3) := by decide +kernel
theorem d_L_law_1166 : decode cL_law 1166 = .ok (.istore 6, 2) := by decide +kernel
theorem d_L_law_1168 : decode cL_law 1168 = .ok (.aload_n 2, 1) := by decide +kernel
theorem d_L_law_1169 : decode cL_law 1169 = .ok (.invokevirtual 92, 3) := by decide +kernel
theorem d_L_law_1172 : decode cL_law 1172 = .ok (.iload 5, 2) := by decide +kernel
theorem d_L_law_1174 : decode cL_law 1174 = .ok (.if_icmp .eq 5, 3) := by decide +kernel
theorem d_L_law_1177 : decode cL_law 1177 = .ok (.iconst 0, 1) := by decide +kernel
theorem d_L_law_1178 : decode cL_law 1178 = .ok (.ireturn, 1) := by decide +kernel
theorem d_L_law_1179 : decode cL_law 1179 = .ok (.iload 5, 2) := by decide +kernel
theorem d_L_law_1181 : decode cL_law 1181 = .ok (.ifCond .ne 15, 3) := by decide +kernel
theorem d_L_law_1184 : decode cL_law 1184 = .ok (.aload_n 3, 1) := by decide +kernel
theorem d_L_law_1185 : decode cL_law 1185 = .ok (.iconst 0, 1) := by decide +kernel
theorem d_L_law_1186 : decode cL_law 1186 = .ok (.laload, 1) := by decide +kernel
theorem d_L_law_1187 : decode cL_law 1187 = .ok (.iload 6, 2) := by decide +kernel
theorem d_L_law_1189 : decode cL_law 1189 = .ok (.i2l, 1) := by decide +kernel
theorem d_L_law_1190 : decode cL_law 1190 = .ok (.lcmp, 1) := by decide +kernel
theorem d_L_law_1191 : decode cL_law 1191 = .ok (.ifCond .eq 5, 3) := by decide +kernel
theorem d_L_law_1194 : decode cL_law 1194 = .ok (.iconst 0, 1) := by decide +kernel
theorem d_L_law_1195 : decode cL_law 1195 = .ok (.ireturn, 1) := by decide +kernel
theorem d_L_law_1196 : decode cL_law 1196 = .ok (.goto 250, 3) := by decide +kernel
theorem d_L_law_1199 : decode cL_law 1199 = .ok (.aload_n 1, 1) := by decide +kernel
theorem d_L_law_1200 : decode cL_law 1200 = .ok (.aload_n 3, 1) := by decide +kernel
theorem d_L_law_1201 : decode cL_law 1201 = .ok (.invokestatic 171, 3) := by decide +kernel
theorem d_L_law_1204 : decode cL_law 1204 = .ok (.istore 5, 2) := by decide +kernel
theorem d_L_law_1206 : decode cL_law 1206 = .ok (.aload_n 2, 1) := by decide +kernel
theorem d_L_law_1207 : decode cL_law 1207 = .ok (.invokevirtual 173, 3) := by decide +kernel
theorem d_L_law_1210 : decode cL_law 1210 = .ok (.istore 6, 2) := by decide +kernel
theorem d_L_law_1212 : decode cL_law 1212 = .ok (.aload_n 2, 1) := by decide +kernel
theorem d_L_law_1213 : decode cL_law 1213 = .ok (.invokevirtual 92, 3) := by decide +kernel
theorem d_L_law_1216 : decode cL_law 1216 = .ok (.iload 5, 2) := by decide +kernel
theorem d_L_law_1218 : decode cL_law 1218 = .ok (.if_icmp .eq 5, 3) := by decide +kernel
theorem d_L_law_1221 : decode cL_law 1221 = .ok (.iconst 0, 1) := by decide +kernel
theorem d_L_law_1222 : decode cL_law 1222 = .ok (.ireturn, 1) := by decide +kernel
theorem d_L_law_1223 : decode cL_law 1223 = .ok (.iload 5, 2) := by decide +kernel
theorem d_L_law_1225 : decode cL_law 1225 = .ok (.ifCond .ne 15, 3) := by decide +kernel
theorem d_L_law_1228 : decode cL_law 1228 = .ok (.aload_n 3, 1) := by decide +kernel
theorem d_L_law_1229 : decode cL_law 1229 = .ok (.iconst 0, 1) := by decide +kernel
theorem d_L_law_1230 : decode cL_law 1230 = .ok (.laload, 1) := by decide +kernel
theorem d_L_law_1231 : decode cL_law 1231 = .ok (.iload 6, 2) := by decide +kernel
theorem d_L_law_1233 : decode cL_law 1233 = .ok (.i2l, 1) := by decide +kernel
theorem d_L_law_1234 : decode cL_law 1234 = .ok (.lcmp, 1) := by decide +kernel
theorem d_L_law_1235 : decode cL_law 1235 = .ok (.ifCond .eq 5, 3) := by decide +kernel
theorem d_L_law_1238 : decode cL_law 1238 = .ok (.iconst 0, 1) := by decide +kernel
theorem d_L_law_1239 : decode cL_law 1239 = .ok (.ireturn, 1) := by decide +kernel
theorem d_L_law_1240 : decode cL_law 1240 = .ok (.goto 206, 3) := by decide +kernel
theorem d_L_law_1243 : decode cL_law 1243 = .ok (.aload_n 1, 1) := by decide +kernel
theorem d_L_law_1244 : decode cL_law 1244 = .ok (.invokevirtual 174, 3) := by decide +kernel
theorem d_L_law_1247 : decode cL_law 1247 = .ok (.aload_n 2, 1) := by decide +kernel
theorem d_L_law_1248 : decode cL_law 1248 = .ok (.invokevirtual 177, 3) := by decide +kernel
theorem d_L_law_1251 : decode cL_law 1251 = .ok (.if_icmp .eq 195, 3) := by decide +kernel
theorem d_L_law_1254 : decode cL_law 1254 = .ok (.iconst 0, 1) := by decide +kernel
theorem d_L_law_1255 : decode cL_law 1255 = .ok (.ireturn, 1) := by decide +kernel
theorem d_L_law_1256 : decode cL_law 1256 = .ok (.aload_n 1, 1) := by decide +kernel
theorem d_L_law_1257 : decode cL_law 1257 = .ok (.invokevirtual 178, 3) := by decide +kernel
theorem d_L_law_1260 : decode cL_law 1260 = .ok (.aload_n 2, 1) := by decide +kernel
theorem d_L_law_1261 : decode cL_law 1261 = .ok (.invokevirtual 181, 3) := by decide +kernel
theorem d_L_law_1264 : decode cL_law 1264 = .ok (.if_icmp .eq 182, 3) := by decide +kernel
theorem d_L_law_1267 : decode cL_law 1267 = .ok (.iconst 0, 1) := by decide +kernel
theorem d_L_law_1268 : decode cL_law 1268 = .ok (.ireturn, 1) := by decide +kernel
theorem d_L_law_1269 : decode cL_law 1269 = .ok (.aload_n 1, 1) := by decide +kernel
theorem d_L_law_1270 : decode cL_law 1270 = .ok (.aload_n 0, 1) := by decide +kernel
theorem d_L_law_1271 : decode cL_law 1271 = .ok (.iload 4, 2) := by decide +kernel
theorem d_L_law_1273 : decode cL_law 1273 = .ok (.iconst 1, 1) := by decide +kernel
theorem d_L_law_1274 : decode cL_law 1274 = .ok (.iadd, 1) := by decide +kernel
theorem d_L_law_1275 : decode cL_law 1275 = .ok (.iaload, 1) := by decide +kernel
theorem d_L_law_1276 : decode cL_law 1276 = .ok (.aload_n 3, 1) := by decide +kernel
theorem d_L_law_1277 : decode cL_law 1277 = .ok (.invokestatic 182, 3) := by decide +kernel
theorem d_L_law_1280 : decode cL_law 1280 = .ok (.istore 5, 2) := by decide +kernel
theorem d_L_law_1282 : decode cL_law 1282 = .ok (.aload_n 2, 1) := by decide +kernel
theorem d_L_law_1283 : decode cL_law 1283 = .ok (.aload_n 0, 1) := by decide +kernel
theorem d_L_law_1284 : decode cL_law 1284 = .ok (.iload 4, 2) := by decide +kernel
theorem d_L_law_1286 : decode cL_law 1286 = .ok (.iconst 1, 1) := by decide +kernel
theorem d_L_law_1287 : decode cL_law 1287 = .ok (.iadd, 1) := by decide +kernel
theorem d_L_law_1288 : decode cL_law 1288 = .ok (.iaload, 1) := by decide +kernel
theorem d_L_law_1289 : decode cL_law 1289 = .ok (.invokevirtual 184, 3) := by decide +kernel
theorem d_L_law_1292 : decode cL_law 1292 = .ok (.istore 6, 2) := by decide +kernel
theorem d_L_law_1294 : decode cL_law 1294 = .ok (.aload_n 2, 1) := by decide +kernel
theorem d_L_law_1295 : decode cL_law 1295 = .ok (.invokevirtual 92, 3) := by decide +kernel
theorem d_L_law_1298 : decode cL_law 1298 = .ok (.iload 5, 2) := by decide +kernel
theorem d_L_law_1300 : decode cL_law 1300 = .ok (.if_icmp .eq 5, 3) := by decide +kernel
theorem d_L_law_1303 : decode cL_law 1303 = .ok (.iconst 0, 1) := by decide +kernel
theorem d_L_law_1304 : decode cL_law 1304 = .ok (.ireturn, 1) := by decide +kernel
theorem d_L_law_1305 : decode cL_law 1305 = .ok (.iload 5, 2) := by decide +kernel
theorem d_L_law_1307 : decode cL_law 1307 = .ok (.ifCond .ne 15, 3) := by decide +kernel
theorem d_L_law_1310 : decode cL_law 1310 = .ok (.aload_n 3, 1) := by decide +kernel
theorem d_L_law_1311 : decode cL_law 1311 = .ok (.iconst 0, 1) := by decide +kernel
theorem d_L_law_1312 : decode cL_law 1312 = .ok (.laload, 1) := by decide +kernel
theorem d_L_law_1313 : decode cL_law 1313 = .ok (.iload 6, 2) := by decide +kernel
theorem d_L_law_1315 : decode cL_law 1315 = .ok (.i2l, 1) := by decide +kernel
theorem d_L_law_1316 : decode cL_law 1316 = .ok (.lcmp, 1) := by decide +kernel
theorem d_L_law_1317 : decode cL_law 1317 = .ok (.ifCond .eq 5, 3) := by decide +kernel
theorem d_L_law_1320 : decode cL_law 1320 = .ok (.iconst 0, 1) := by decide +kernel
theorem d_L_law_1321 : decode cL_law 1321 = .ok (.ireturn, 1) := by decide +kernel
theorem d_L_law_1322 : decode cL_law 1322 = .ok (.goto 124, 3) := by decide +kernel
theorem d_L_law_1325 : decode cL_law 1325 = .ok (.aload_n 1, 1) := by decide +kernel
theorem d_L_law_1326 : decode cL_law 1326 = .ok (.aload_n 0, 1) := by decide +kernel
theorem d_L_law_1327 : decode cL_law 1327 = .ok (.iload 4, 2) := by decide +kernel
theorem d_L_law_1329 : decode cL_law 1329 = .ok (.iconst 1, 1) := by decide +kernel
theorem d_L_law_1330 : decode cL_law 1330 = .ok (.iadd, 1) := by decide +kernel
theorem d_L_law_1331 : decode cL_law 1331 = .ok (.iaload, 1) := by decide +kernel
theorem d_L_law_1332 : decode cL_law 1332 = .ok (.aload_n 3, 1) := by decide +kernel
theorem d_L_law_1333 : decode cL_law 1333 = .ok (.invokestatic 185, 3) := by decide +kernel
theorem d_L_law_1336 : decode cL_law 1336 = .ok (.istore 5, 2) := by decide +kernel
theorem d_L_law_1338 : decode cL_law 1338 = .ok (.aload_n 2, 1) := by decide +kernel
theorem d_L_law_1339 : decode cL_law 1339 = .ok (.aload_n 0, 1) := by decide +kernel
theorem d_L_law_1340 : decode cL_law 1340 = .ok (.iload 4, 2) := by decide +kernel
theorem d_L_law_1342 : decode cL_law 1342 = .ok (.iconst 1, 1) := by decide +kernel
theorem d_L_law_1343 : decode cL_law 1343 = .ok (.iadd, 1) := by decide +kernel
theorem d_L_law_1344 : decode cL_law 1344 = .ok (.iaload, 1) := by decide +kernel
theorem d_L_law_1345 : decode cL_law 1345 = .ok (.invokevirtual 187, 3) := by decide +kernel
theorem d_L_law_1348 : decode cL_law 1348 = .ok (.istore 6, 2) := by decide +kernel
theorem d_L_law_1350 : decode cL_law 1350 = .ok (.aload_n 2, 1) := by decide +kernel
theorem d_L_law_1351 : decode cL_law 1351 = .ok (.invokevirtual 92, 3) := by decide +kernel
theorem d_L_law_1354 : decode cL_law 1354 = .ok (.iload 5, 2) := by decide +kernel
theorem d_L_law_1356 : decode cL_law 1356 = .ok (.if_icmp .eq 5, 3) := by decide +kernel
theorem d_L_law_1359 : decode cL_law 1359 = .ok (.iconst 0, 1) := by decide +kernel
theorem d_L_law_1360 : decode cL_law 1360 = .ok (.ireturn, 1) := by decide +kernel
theorem d_L_law_1361 : decode cL_law 1361 = .ok (.iload 5, 2) := by decide +kernel
theorem d_L_law_1363 : decode cL_law 1363 = .ok (.ifCond .ne 15, 3) := by decide +kernel
theorem d_L_law_1366 : decode cL_law 1366 = .ok (.aload_n 3, 1) := by decide +kernel
theorem d_L_law_1367 : decode cL_law 1367 = .ok (.iconst 0, 1) := by decide +kernel
theorem d_L_law_1368 : decode cL_law 1368 = .ok (.laload, 1) := by decide +kernel
theorem d_L_law_1369 : decode cL_law 1369 = .ok (.iload 6, 2) := by decide +kernel
theorem d_L_law_1371 : decode cL_law 1371 = .ok (.i2l, 1) := by decide +kernel
theorem d_L_law_1372 : decode cL_law 1372 = .ok (.lcmp, 1) := by decide +kernel
theorem d_L_law_1373 : decode cL_law 1373 = .ok (.ifCond .eq 5, 3) := by decide +kernel
theorem d_L_law_1376 : decode cL_law 1376 = .ok (.iconst 0, 1) := by decide +kernel
theorem d_L_law_1377 : decode cL_law 1377 = .ok (.ireturn, 1) := by decide +kernel
theorem d_L_law_1378 : decode cL_law 1378 = .ok (.goto 68, 3) := by decide +kernel
theorem d_L_law_1381 : decode cL_law 1381 = .ok (.aload_n 1, 1) := by decide +kernel
theorem d_L_law_1382 : decode cL_law 1382 = .ok (.invokevirtual 188, 3) := by decide +kernel
theorem d_L_law_1385 : decode cL_law 1385 = .ok (.aload_n 2, 1) := by decide +kernel
theorem d_L_law_1386 : decode cL_law 1386 = .ok (.invokevirtual 191, 3) := by decide +kernel
theorem d_L_law_1389 : decode cL_law 1389 = .ok (.if_icmp .eq 57, 3) := by decide +kernel
theorem d_L_law_1392 : decode cL_law 1392 = .ok (.iconst 0, 1) := by decide +kernel
theorem d_L_law_1393 : decode cL_law 1393 = .ok (.ireturn, 1) := by decide +kernel
theorem d_L_law_1394 : decode cL_law 1394 = .ok (.aload_n 1, 1) := by decide +kernel
theorem d_L_law_1395 : decode cL_law 1395 = .ok (.invokevirtual 192, 3) := by decide +kernel
theorem d_L_law_1398 : decode cL_law 1398 = .ok (.aload_n 2, 1) := by decide +kernel
theorem d_L_law_1399 : decode cL_law 1399 = .ok (.invokevirtual 195, 3) := by decide +kernel
theorem d_L_law_1402 : decode cL_law 1402 = .ok (.if_icmp .eq 44, 3) := by decide +kernel
theorem d_L_law_1405 : decode cL_law 1405 = .ok (.iconst 0, 1) := by decide +kernel
theorem d_L_law_1406 : decode cL_law 1406 = .ok (.ireturn, 1) := by decide +kernel
theorem d_L_law_1407 : decode cL_law 1407 = .ok (.aload_n 1, 1) := by decide +kernel
theorem d_L_law_1408 : decode cL_law 1408 = .ok (.invokevirtual 196, 3) := by decide +kernel
theorem d_L_law_1411 : decode cL_law 1411 = .ok (.aload_n 2, 1) := by decide +kernel
theorem d_L_law_1412 : decode cL_law 1412 = .ok (.invokevirtual 199, 3) := by decide +kernel
theorem d_L_law_1415 : decode cL_law 1415 = .ok (.if_icmp .eq 31, 3) := by decide +kernel
theorem d_L_law_1418 : decode cL_law 1418 = .ok (.iconst 0, 1) := by decide +kernel
theorem d_L_law_1419 : decode cL_law 1419 = .ok (.ireturn, 1) := by decide +kernel
theorem d_L_law_1420 : decode cL_law 1420 = .ok (.aload_n 1, 1) := by decide +kernel
theorem d_L_law_1421 : decode cL_law 1421 = .ok (.invokevirtual 200, 3) := by decide +kernel
theorem d_L_law_1424 : decode cL_law 1424 = .ok (.aload_n 2, 1) := by decide +kernel
theorem d_L_law_1425 : decode cL_law 1425 = .ok (.invokevirtual 203, 3) := by decide +kernel
theorem d_L_law_1428 : decode cL_law 1428 = .ok (.if_icmp .eq 18, 3) := by decide +kernel
theorem d_L_law_1431 : decode cL_law 1431 = .ok (.iconst 0, 1) := by decide +kernel
theorem d_L_law_1432 : decode cL_law 1432 = .ok (.ireturn, 1) := by decide +kernel
theorem d_L_law_1433 : decode cL_law 1433 = .ok (.aload_n 1, 1) := by decide +kernel
theorem d_L_law_1434 : decode cL_law 1434 = .ok (.invokevirtual 204, 3) := by decide +kernel
theorem d_L_law_1437 : decode cL_law 1437 = .ok (.aload_n 2, 1) := by decide +kernel
theorem d_L_law_1438 : decode cL_law 1438 = .ok (.invokevirtual 207, 3) := by decide +kernel
theorem d_L_law_1441 : decode cL_law 1441 = .ok (.if_icmp .eq 5, 3) := by decide +kernel
theorem d_L_law_1444 : decode cL_law 1444 = .ok (.iconst 0, 1) := by decide +kernel
theorem d_L_law_1445 : decode cL_law 1445 = .ok (.ireturn, 1) := by decide +kernel
theorem d_L_law_1446 : decode cL_law 1446 = .ok (.iinc 4 4, 3) := by decide +kernel
theorem d_L_law_1449 : decode cL_law 1449 = .ok (.goto (-1426), 3) := by decide +kernel
theorem d_L_law_1452 : decode cL_law 1452 = .ok (.iconst 1, 1) := by decide +kernel
theorem d_L_law_1453 : decode cL_law 1453 = .ok (.ireturn, 1) := by decide +kernel
