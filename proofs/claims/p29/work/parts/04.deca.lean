theorem dX0_codes_0 : decode cX0_codes 0 = .ok (.iconst 1, 1) := by decide +kernel
theorem dX0_codes_1 : decode cX0_codes 1 = .ok (.istore_n 1, 1) := by decide +kernel
theorem dX0_codes_2 : decode cX0_codes 2 = .ok (.iconst 0, 1) := by decide +kernel
theorem dX0_codes_3 : decode cX0_codes 3 = .ok (.istore_n 2, 1) := by decide +kernel
theorem dX0_codes_4 : decode cX0_codes 4 = .ok (.iload_n 2, 1) := by decide +kernel
theorem dX0_codes_5 : decode cX0_codes 5 = .ok (.iload_n 0, 1) := by decide +kernel
theorem dX0_codes_6 : decode cX0_codes 6 = .ok (.if_icmp .ge 19, 3) := by decide +kernel
theorem dX0_codes_9 : decode cX0_codes 9 = .ok (.iload_n 2, 1) := by decide +kernel
theorem dX0_codes_10 : decode cX0_codes 10 = .ok (.iconst 4, 1) := by decide +kernel
theorem dX0_codes_11 : decode cX0_codes 11 = .ok (.if_icmp .ge 14, 3) := by decide +kernel
theorem dX0_codes_14 : decode cX0_codes 14 = .ok (.iload_n 1, 1) := by decide +kernel
theorem dX0_codes_15 : decode cX0_codes 15 = .ok (.bipush 26, 2) := by decide +kernel
theorem dX0_codes_17 : decode cX0_codes 17 = .ok (.imul, 1) := by decide +kernel
theorem dX0_codes_18 : decode cX0_codes 18 = .ok (.istore_n 1, 1) := by decide +kernel
theorem dX0_codes_19 : decode cX0_codes 19 = .ok (.iinc 2 1, 3) := by decide +kernel
theorem dX0_codes_22 : decode cX0_codes 22 = .ok (.goto (-18), 3) := by decide +kernel
theorem dX0_codes_25 : decode cX0_codes 25 = .ok (.iload_n 1, 1) := by decide +kernel
theorem dX0_codes_26 : decode cX0_codes 26 = .ok (.ireturn, 1) := by decide +kernel
theorem dX0_isCode_0 : decode cX0_isCode 0 = .ok (.iload_n 0, 1) := by decide +kernel
theorem dX0_isCode_1 : decode cX0_isCode 1 = .ok (.iconst 1, 1) := by decide +kernel
theorem dX0_isCode_2 : decode cX0_isCode 2 = .ok (.if_icmp .lt 24, 3) := by decide +kernel
theorem dX0_isCode_5 : decode cX0_isCode 5 = .ok (.iload_n 0, 1) := by decide +kernel
theorem dX0_isCode_6 : decode cX0_isCode 6 = .ok (.iconst 4, 1) := by decide +kernel
theorem dX0_isCode_7 : decode cX0_isCode 7 = .ok (.if_icmp .gt 19, 3) := by decide +kernel
theorem dX0_isCode_10 : decode cX0_isCode 10 = .ok (.iload_n 1, 1) := by decide +kernel
theorem dX0_isCode_11 : decode cX0_isCode 11 = .ok (.ifCond .lt 15, 3) := by decide +kernel
theorem dX0_isCode_14 : decode cX0_isCode 14 = .ok (.iload_n 1, 1) := by decide +kernel
theorem dX0_isCode_15 : decode cX0_isCode 15 = .ok (.iload_n 0, 1) := by decide +kernel
theorem dX0_isCode_16 : decode cX0_isCode 16 = .ok (.invokestatic 9, 3) := by decide +kernel
theorem dX0_isCode_19 : decode cX0_isCode 19 = .ok (.if_icmp .ge 7, 3) := by decide +kernel
theorem dX0_isCode_22 : decode cX0_isCode 22 = .ok (.iconst 1, 1) := by decide +kernel
theorem dX0_isCode_23 : decode cX0_isCode 23 = .ok (.goto 4, 3) := by decide +kernel
theorem dX0_isCode_26 : decode cX0_isCode 26 = .ok (.iconst 0, 1) := by decide +kernel
theorem dX0_isCode_27 : decode cX0_isCode 27 = .ok (.ireturn, 1) := by decide +kernel
theorem dX0_at_0 : decode cX0_at 0 = .ok (.iload_n 1, 1) := by decide +kernel
theorem dX0_at_1 : decode cX0_at 1 = .ok (.istore_n 3, 1) := by decide +kernel
theorem dX0_at_2 : decode cX0_at 2 = .ok (.iload_n 0, 1) := by decide +kernel
theorem dX0_at_3 : decode cX0_at 3 = .ok (.iconst 1, 1) := by decide +kernel
theorem dX0_at_4 : decode cX0_at 4 = .ok (.isub, 1) := by decide +kernel
theorem dX0_at_5 : decode cX0_at 5 = .ok (.istore 4, 2) := by decide +kernel
theorem dX0_at_7 : decode cX0_at 7 = .ok (.iload 4, 2) := by decide +kernel
theorem dX0_at_9 : decode cX0_at 9 = .ok (.iload_n 2, 1) := by decide +kernel
theorem dX0_at_10 : decode cX0_at 10 = .ok (.if_icmp .le 14, 3) := by decide +kernel
theorem dX0_at_13 : decode cX0_at 13 = .ok (.iload_n 3, 1) := by decide +kernel
theorem dX0_at_14 : decode cX0_at 14 = .ok (.bipush 26, 2) := by decide +kernel
theorem dX0_at_16 : decode cX0_at 16 = .ok (.idiv, 1) := by decide +kernel
theorem dX0_at_17 : decode cX0_at 17 = .ok (.istore_n 3, 1) := by decide +kernel
theorem dX0_at_18 : decode cX0_at 18 = .ok (.iinc 4 (-1), 3) := by decide +kernel
theorem dX0_at_21 : decode cX0_at 21 = .ok (.goto (-14), 3) := by decide +kernel
theorem dX0_at_24 : decode cX0_at 24 = .ok (.iload_n 3, 1) := by decide +kernel
theorem dX0_at_25 : decode cX0_at 25 = .ok (.bipush 26, 2) := by decide +kernel
theorem dX0_at_27 : decode cX0_at 27 = .ok (.irem, 1) := by decide +kernel
theorem dX0_at_28 : decode cX0_at 28 = .ok (.ireturn, 1) := by decide +kernel
theorem dX0_dictionaryKey_0 : decode cX0_dictionaryKey 0 = .ok (.iconst 0, 1) := by decide +kernel
theorem dX0_dictionaryKey_1 : decode cX0_dictionaryKey 1 = .ok (.istore_n 2, 1) := by decide +kernel
theorem dX0_dictionaryKey_2 : decode cX0_dictionaryKey 2 = .ok (.iconst 0, 1) := by decide +kernel
theorem dX0_dictionaryKey_3 : decode cX0_dictionaryKey 3 = .ok (.istore_n 3, 1) := by decide +kernel
theorem dX0_dictionaryKey_4 : decode cX0_dictionaryKey 4 = .ok (.iload_n 3, 1) := by decide +kernel
theorem dX0_dictionaryKey_5 : decode cX0_dictionaryKey 5 = .ok (.iconst 4, 1) := by decide +kernel
theorem dX0_dictionaryKey_6 : decode cX0_dictionaryKey 6 = .ok (.if_icmp .ge 32, 3) := by decide +kernel
theorem dX0_dictionaryKey_9 : decode cX0_dictionaryKey 9 = .ok (.iload_n 2, 1) := by decide +kernel
theorem dX0_dictionaryKey_10 : decode cX0_dictionaryKey 10 = .ok (.bipush 27, 2) := by decide +kernel
theorem dX0_dictionaryKey_12 : decode cX0_dictionaryKey 12 = .ok (.imul, 1) := by decide +kernel
theorem dX0_dictionaryKey_13 : decode cX0_dictionaryKey 13 = .ok (.iload_n 3, 1) := by decide +kernel
theorem dX0_dictionaryKey_14 : decode cX0_dictionaryKey 14 = .ok (.iload_n 0, 1) := by decide +kernel
theorem dX0_dictionaryKey_15 : decode cX0_dictionaryKey 15 = .ok (.if_icmp .ge 14, 3) := by decide +kernel
theorem dX0_dictionaryKey_18 : decode cX0_dictionaryKey 18 = .ok (.iload_n 0, 1) := by decide +kernel
theorem dX0_dictionaryKey_19 : decode cX0_dictionaryKey 19 = .ok (.iload_n 1, 1) := by decide +kernel
theorem dX0_dictionaryKey_20 : decode cX0_dictionaryKey 20 = .ok (.iload_n 3, 1) := by decide +kernel
theorem dX0_dictionaryKey_21 : decode cX0_dictionaryKey 21 = .ok (.invokestatic 15, 3) := by decide +kernel
theorem dX0_dictionaryKey_24 : decode cX0_dictionaryKey 24 = .ok (.iconst 1, 1) := by decide +kernel
theorem dX0_dictionaryKey_25 : decode cX0_dictionaryKey 25 = .ok (.iadd, 1) := by decide +kernel
theorem dX0_dictionaryKey_26 : decode cX0_dictionaryKey 26 = .ok (.goto 4, 3) := by decide +kernel
theorem dX0_dictionaryKey_29 : decode cX0_dictionaryKey 29 = .ok (.iconst 0, 1) := by decide +kernel
theorem dX0_dictionaryKey_30 : decode cX0_dictionaryKey 30 = .ok (.iadd, 1) := by decide +kernel
theorem dX0_dictionaryKey_31 : decode cX0_dictionaryKey 31 = .ok (.istore_n 2, 1) := by decide +kernel
theorem dX0_dictionaryKey_32 : decode cX0_dictionaryKey 32 = .ok (.iinc 3 1, 3) := by decide +kernel
theorem dX0_dictionaryKey_35 : decode cX0_dictionaryKey 35 = .ok (.goto (-31), 3) := by decide +kernel
theorem dX0_dictionaryKey_38 : decode cX0_dictionaryKey 38 = .ok (.iload_n 2, 1) := by decide +kernel
theorem dX0_dictionaryKey_39 : decode cX0_dictionaryKey 39 = .ok (.ireturn, 1) := by decide +kernel
theorem dX0_isRepeated_0 : decode cX0_isRepeated 0 = .ok (.iconst 0, 1) := by decide +kernel
theorem dX0_isRepeated_1 : decode cX0_isRepeated 1 = .ok (.istore_n 3, 1) := by decide +kernel
theorem dX0_isRepeated_2 : decode cX0_isRepeated 2 = .ok (.iload_n 3, 1) := by decide +kernel
theorem dX0_isRepeated_3 : decode cX0_isRepeated 3 = .ok (.iload_n 2, 1) := by decide +kernel
theorem dX0_isRepeated_4 : decode cX0_isRepeated 4 = .ok (.if_icmp .ge 26, 3) := by decide +kernel
theorem dX0_isRepeated_7 : decode cX0_isRepeated 7 = .ok (.iload_n 0, 1) := by decide +kernel
theorem dX0_isRepeated_8 : decode cX0_isRepeated 8 = .ok (.iload_n 1, 1) := by decide +kernel
theorem dX0_isRepeated_9 : decode cX0_isRepeated 9 = .ok (.iload_n 3, 1) := by decide +kernel
theorem dX0_isRepeated_10 : decode cX0_isRepeated 10 = .ok (.invokestatic 15, 3) := by decide +kernel
theorem dX0_isRepeated_13 : decode cX0_isRepeated 13 = .ok (.iload_n 0, 1) := by decide +kernel
theorem dX0_isRepeated_14 : decode cX0_isRepeated 14 = .ok (.iload_n 1, 1) := by decide +kernel
theorem dX0_isRepeated_15 : decode cX0_isRepeated 15 = .ok (.iload_n 2, 1) := by decide +kernel
theorem dX0_isRepeated_16 : decode cX0_isRepeated 16 = .ok (.invokestatic 15, 3) := by decide +kernel
theorem dX0_isRepeated_19 : decode cX0_isRepeated 19 = .ok (.if_icmp .ne 5, 3) := by decide +kernel
theorem dX0_isRepeated_22 : decode cX0_isRepeated 22 = .ok (.iconst 1, 1) := by decide +kernel
theorem dX0_isRepeated_23 : decode cX0_isRepeated 23 = .ok (.ireturn, 1) := by decide +kernel
theorem dX0_isRepeated_24 : decode cX0_isRepeated 24 = .ok (.iinc 3 1, 3) := by decide +kernel
theorem dX0_isRepeated_27 : decode cX0_isRepeated 27 = .ok (.goto (-25), 3) := by decide +kernel
theorem dX0_isRepeated_30 : decode cX0_isRepeated 30 = .ok (.iconst 0, 1) := by decide +kernel
theorem dX0_isRepeated_31 : decode cX0_isRepeated 31 = .ok (.ireturn, 1) := by decide +kernel
theorem dX1_init_0 : decode cX1_init 0 = .ok (.aload_n 0, 1) := by decide +kernel
theorem dX1_init_1 : decode cX1_init 1 = .ok (.invokespecial 3, 3) := by decide +kernel
theorem dX1_init_4 : decode cX1_init 4 = .ok (.aload_n 0, 1) := by decide +kernel
theorem dX1_init_5 : decode cX1_init 5 = .ok (.bipush 26, 2) := by decide +kernel
theorem dX1_init_7 : decode cX1_init 7 = .ok (.newarray .int, 2) := by decide +kernel
theorem dX1_init_9 : decode cX1_init 9 = .ok (.putfield 9, 3) := by decide +kernel
theorem dX1_init_12 : decode cX1_init 12 = .ok (.return_, 1) := by decide +kernel
theorem dX1_bestCode_0 : decode cX1_bestCode 0 = .ok (.aload_n 1, 1) := by decide +kernel
theorem dX1_bestCode_1 : decode cX1_bestCode 1 = .ok (.iload_n 2, 1) := by decide +kernel
theorem dX1_bestCode_2 : decode cX1_bestCode 2 = .ok (.iload_n 3, 1) := by decide +kernel
theorem dX1_bestCode_3 : decode cX1_bestCode 3 = .ok (.invokevirtual 15, 3) := by decide +kernel
theorem dX1_bestCode_6 : decode cX1_bestCode 6 = .ok (.ifCond .ne 13, 3) := by decide +kernel
theorem dX1_bestCode_9 : decode cX1_bestCode 9 = .ok (.aload_n 1, 1) := by decide +kernel
theorem dX1_bestCode_10 : decode cX1_bestCode 10 = .ok (.getfield 21, 3) := by decide +kernel
theorem dX1_bestCode_13 : decode cX1_bestCode 13 = .ok (.invokevirtual 25, 3) := by decide +kernel
theorem dX1_bestCode_16 : decode cX1_bestCode 16 = .ok (.ifCond .eq 5, 3) := by decide +kernel
theorem dX1_bestCode_19 : decode cX1_bestCode 19 = .ok (.iconst (-1), 1) := by decide +kernel
theorem dX1_bestCode_20 : decode cX1_bestCode 20 = .ok (.ireturn, 1) := by decide +kernel
theorem dX1_bestCode_21 : decode cX1_bestCode 21 = .ok (.aload_n 1, 1) := by decide +kernel
theorem dX1_bestCode_22 : decode cX1_bestCode 22 = .ok (.getfield 31, 3) := by decide +kernel
theorem dX1_bestCode_25 : decode cX1_bestCode 25 = .ok (.getfield 35, 3) := by decide +kernel
theorem dX1_bestCode_28 : decode cX1_bestCode 28 = .ok (.iload_n 3, 1) := by decide +kernel
theorem dX1_bestCode_29 : decode cX1_bestCode 29 = .ok (.iaload, 1) := by decide +kernel
theorem dX1_bestCode_30 : decode cX1_bestCode 30 = .ok (.istore 5, 2) := by decide +kernel
theorem dX1_bestCode_32 : decode cX1_bestCode 32 = .ok (.aload_n 0, 1) := by decide +kernel
theorem dX1_bestCode_33 : decode cX1_bestCode 33 = .ok (.aload_n 1, 1) := by decide +kernel
theorem dX1_bestCode_34 : decode cX1_bestCode 34 = .ok (.getfield 21, 3) := by decide +kernel
theorem dX1_bestCode_37 : decode cX1_bestCode 37 = .ok (.invokevirtual 40, 3) := by decide +kernel
theorem dX1_bestCode_40 : decode cX1_bestCode 40 = .ok (.iconst (-1), 1) := by decide +kernel
theorem dX1_bestCode_41 : decode cX1_bestCode 41 = .ok (.istore 6, 2) := by decide +kernel
theorem dX1_bestCode_43 : decode cX1_bestCode 43 = .ok (.iconst 0, 1) := by decide +kernel
theorem dX1_bestCode_44 : decode cX1_bestCode 44 = .ok (.istore 7, 2) := by decide +kernel
theorem dX1_bestCode_46 : decode cX1_bestCode 46 = .ok (.iconst 0, 1) := by decide +kernel
theorem dX1_bestCode_47 : decode cX1_bestCode 47 = .ok (.istore 8, 2) := by decide +kernel
theorem dX1_bestCode_49 : decode cX1_bestCode 49 = .ok (.iload 8, 2) := by decide +kernel
theorem dX1_bestCode_51 : decode cX1_bestCode 51 = .ok (.iload 4, 2) := by decide +kernel
theorem dX1_bestCode_53 : decode cX1_bestCode 53 = .ok (.invokestatic 44, 3) := by decide +kernel
theorem dX1_bestCode_56 : decode cX1_bestCode 56 = .ok (.if_icmp .ge 54, 3) := by decide +kernel
theorem dX1_bestCode_59 : decode cX1_bestCode 59 = .ok (.aload_n 0, 1) := by decide +kernel
theorem dX1_bestCode_60 : decode cX1_bestCode 60 = .ok (.iload 4, 2) := by decide +kernel
theorem dX1_bestCode_62 : decode cX1_bestCode 62 = .ok (.iload 8, 2) := by decide +kernel
theorem dX1_bestCode_64 : decode cX1_bestCode 64 = .ok (.invokevirtual 50, 3) := by decide +kernel
theorem dX1_bestCode_67 : decode cX1_bestCode 67 = .ok (.istore 9, 2) := by decide +kernel
theorem dX1_bestCode_69 : decode cX1_bestCode 69 = .ok (.iload 6, 2) := by decide +kernel
theorem dX1_bestCode_71 : decode cX1_bestCode 71 = .ok (.iconst (-1), 1) := by decide +kernel
theorem dX1_bestCode_72 : decode cX1_bestCode 72 = .ok (.if_icmp .eq 10, 3) := by decide +kernel
theorem dX1_bestCode_75 : decode cX1_bestCode 75 = .ok (.iload 9, 2) := by decide +kernel
theorem dX1_bestCode_77 : decode cX1_bestCode 77 = .ok (.iload 7, 2) := by decide +kernel
theorem dX1_bestCode_79 : decode cX1_bestCode 79 = .ok (.if_icmp .ge 25, 3) := by decide +kernel
theorem dX1_bestCode_82 : decode cX1_bestCode 82 = .ok (.aload_n 1, 1) := by decide +kernel
theorem dX1_bestCode_83 : decode cX1_bestCode 83 = .ok (.iload 5, 2) := by decide +kernel
theorem dX1_bestCode_85 : decode cX1_bestCode 85 = .ok (.iload 4, 2) := by decide +kernel
theorem dX1_bestCode_87 : decode cX1_bestCode 87 = .ok (.iload 8, 2) := by decide +kernel
theorem dX1_bestCode_89 : decode cX1_bestCode 89 = .ok (.iconst (-1), 1) := by decide +kernel
theorem dX1_bestCode_90 : decode cX1_bestCode 90 = .ok (.invokevirtual 53, 3) := by decide +kernel
theorem dX1_bestCode_93 : decode cX1_bestCode 93 = .ok (.ifCond .ne 11, 3) := by decide +kernel
theorem dX1_bestCode_96 : decode cX1_bestCode 96 = .ok (.iload 8, 2) := by decide +kernel
theorem dX1_bestCode_98 : decode cX1_bestCode 98 = .ok (.istore 6, 2) := by decide +kernel
theorem dX1_bestCode_100 : decode cX1_bestCode 100 = .ok (.iload 9, 2) := by decide +kernel
theorem dX1_bestCode_102 : decode cX1_bestCode 102 = .ok (.istore 7, 2) := by decide +kernel
theorem dX1_bestCode_104 : decode cX1_bestCode 104 = .ok (.iinc 8 1, 3) := by decide +kernel
theorem dX1_bestCode_107 : decode cX1_bestCode 107 = .ok (.goto (-58), 3) := by decide +kernel
theorem dX1_bestCode_110 : decode cX1_bestCode 110 = .ok (.iload 6, 2) := by decide +kernel
theorem dX1_bestCode_112 : decode cX1_bestCode 112 = .ok (.ireturn, 1) := by decide +kernel
theorem dX1_countNames_0 : decode cX1_countNames 0 = .ok (.iconst 0, 1) := by decide +kernel
theorem dX1_countNames_1 : decode cX1_countNames 1 = .ok (.istore_n 2, 1) := by decide +kernel
theorem dX1_countNames_2 : decode cX1_countNames 2 = .ok (.iload_n 2, 1) := by decide +kernel
theorem dX1_countNames_3 : decode cX1_countNames 3 = .ok (.bipush 26, 2) := by decide +kernel
theorem dX1_countNames_5 : decode cX1_countNames 5 = .ok (.if_icmp .ge 16, 3) := by decide +kernel
theorem dX1_countNames_8 : decode cX1_countNames 8 = .ok (.aload_n 0, 1) := by decide +kernel
theorem dX1_countNames_9 : decode cX1_countNames 9 = .ok (.getfield 9, 3) := by decide +kernel
theorem dX1_countNames_12 : decode cX1_countNames 12 = .ok (.iload_n 2, 1) := by decide +kernel
theorem dX1_countNames_13 : decode cX1_countNames 13 = .ok (.iconst 0, 1) := by decide +kernel
theorem dX1_countNames_14 : decode cX1_countNames 14 = .ok (.iastore, 1) := by decide +kernel
theorem dX1_countNames_15 : decode cX1_countNames 15 = .ok (.iinc 2 1, 3) := by decide +kernel
theorem dX1_countNames_18 : decode cX1_countNames 18 = .ok (.goto (-16), 3) := by decide +kernel
theorem dX1_countNames_21 : decode cX1_countNames 21 = .ok (.iconst 0, 1) := by decide +kernel
theorem dX1_countNames_22 : decode cX1_countNames 22 = .ok (.istore_n 2, 1) := by decide +kernel
theorem dX1_countNames_23 : decode cX1_countNames 23 = .ok (.iload_n 2, 1) := by decide +kernel
theorem dX1_countNames_24 : decode cX1_countNames 24 = .ok (.aload_n 1, 1) := by decide +kernel
theorem dX1_countNames_25 : decode cX1_countNames 25 = .ok (.getfield 57, 3) := by decide +kernel
theorem dX1_countNames_28 : decode cX1_countNames 28 = .ok (.if_icmp .ge 33, 3) := by decide +kernel
theorem dX1_countNames_31 : decode cX1_countNames 31 = .ok (.aload_n 1, 1) := by decide +kernel
theorem dX1_countNames_32 : decode cX1_countNames 32 = .ok (.iload_n 2, 1) := by decide +kernel
theorem dX1_countNames_33 : decode cX1_countNames 33 = .ok (.invokevirtual 61, 3) := by decide +kernel
theorem dX1_countNames_36 : decode cX1_countNames 36 = .ok (.ifCond .eq 19, 3) := by decide +kernel
theorem dX1_countNames_39 : decode cX1_countNames 39 = .ok (.aload_n 0, 1) := by decide +kernel
theorem dX1_countNames_40 : decode cX1_countNames 40 = .ok (.aload_n 1, 1) := by decide +kernel
theorem dX1_countNames_41 : decode cX1_countNames 41 = .ok (.getfield 65, 3) := by decide +kernel
theorem dX1_countNames_44 : decode cX1_countNames 44 = .ok (.iload_n 2, 1) := by decide +kernel
theorem dX1_countNames_45 : decode cX1_countNames 45 = .ok (.iaload, 1) := by decide +kernel
theorem dX1_countNames_46 : decode cX1_countNames 46 = .ok (.aload_n 1, 1) := by decide +kernel
theorem dX1_countNames_47 : decode cX1_countNames 47 = .ok (.getfield 68, 3) := by decide +kernel
theorem dX1_countNames_50 : decode cX1_countNames 50 = .ok (.iload_n 2, 1) := by decide +kernel
theorem dX1_countNames_51 : decode cX1_countNames 51 = .ok (.iaload, 1) := by decide +kernel
theorem dX1_countNames_52 : decode cX1_countNames 52 = .ok (.invokevirtual 71, 3) := by decide +kernel
theorem dX1_countNames_55 : decode cX1_countNames 55 = .ok (.iinc 2 1, 3) := by decide +kernel
theorem dX1_countNames_58 : decode cX1_countNames 58 = .ok (.goto (-35), 3) := by decide +kernel
theorem dX1_countNames_61 : decode cX1_countNames 61 = .ok (.return_, 1) := by decide +kernel
theorem dX1_countLetters_0 : decode cX1_countLetters 0 = .ok (.iconst 0, 1) := by decide +kernel
theorem dX1_countLetters_1 : decode cX1_countLetters 1 = .ok (.istore_n 3, 1) := by decide +kernel
theorem dX1_countLetters_2 : decode cX1_countLetters 2 = .ok (.iload_n 3, 1) := by decide +kernel
theorem dX1_countLetters_3 : decode cX1_countLetters 3 = .ok (.iload_n 1, 1) := by decide +kernel
theorem dX1_countLetters_4 : decode cX1_countLetters 4 = .ok (.if_icmp .ge 33, 3) := by decide +kernel
theorem dX1_countLetters_7 : decode cX1_countLetters 7 = .ok (.iload_n 1, 1) := by decide +kernel
theorem dX1_countLetters_8 : decode cX1_countLetters 8 = .ok (.iload_n 2, 1) := by decide +kernel
theorem dX1_countLetters_9 : decode cX1_countLetters 9 = .ok (.iload_n 3, 1) := by decide +kernel
theorem dX1_countLetters_10 : decode cX1_countLetters 10 = .ok (.invokestatic 75, 3) := by decide +kernel
theorem dX1_countLetters_13 : decode cX1_countLetters 13 = .ok (.ifCond .ne 18, 3) := by decide +kernel
theorem dX1_countLetters_16 : decode cX1_countLetters 16 = .ok (.aload_n 0, 1) := by decide +kernel
theorem dX1_countLetters_17 : decode cX1_countLetters 17 = .ok (.getfield 9, 3) := by decide +kernel
theorem dX1_countLetters_20 : decode cX1_countLetters 20 = .ok (.iload_n 1, 1) := by decide +kernel
theorem dX1_countLetters_21 : decode cX1_countLetters 21 = .ok (.iload_n 2, 1) := by decide +kernel
theorem dX1_countLetters_22 : decode cX1_countLetters 22 = .ok (.iload_n 3, 1) := by decide +kernel
theorem dX1_countLetters_23 : decode cX1_countLetters 23 = .ok (.invokestatic 79, 3) := by decide +kernel
theorem dX1_countLetters_26 : decode cX1_countLetters 26 = .ok (.dup2, 1) := by decide +kernel
theorem dX1_countLetters_27 : decode cX1_countLetters 27 = .ok (.iaload, 1) := by decide +kernel
theorem dX1_countLetters_28 : decode cX1_countLetters 28 = .ok (.iconst 1, 1) := by decide +kernel
theorem dX1_countLetters_29 : decode cX1_countLetters 29 = .ok (.iadd, 1) := by decide +kernel
theorem dX1_countLetters_30 : decode cX1_countLetters 30 = .ok (.iastore, 1) := by decide +kernel
theorem dX1_countLetters_31 : decode cX1_countLetters 31 = .ok (.iinc 3 1, 3) := by decide +kernel
theorem dX1_countLetters_34 : decode cX1_countLetters 34 = .ok (.goto (-32), 3) := by decide +kernel
theorem dX1_countLetters_37 : decode cX1_countLetters 37 = .ok (.return_, 1) := by decide +kernel
theorem dX1_namesWithLettersOf_0 : decode cX1_namesWithLettersOf 0 = .ok (.iconst 0, 1) := by decide +kernel
theorem dX1_namesWithLettersOf_1 : decode cX1_namesWithLettersOf 1 = .ok (.istore_n 3, 1) := by decide +kernel
theorem dX1_namesWithLettersOf_2 : decode cX1_namesWithLettersOf 2 = .ok (.iconst 0, 1) := by decide +kernel
theorem dX1_namesWithLettersOf_3 : decode cX1_namesWithLettersOf 3 = .ok (.istore 4, 2) := by decide +kernel
theorem dX1_namesWithLettersOf_5 : decode cX1_namesWithLettersOf 5 = .ok (.iload 4, 2) := by decide +kernel
theorem dX1_namesWithLettersOf_7 : decode cX1_namesWithLettersOf 7 = .ok (.iload_n 1, 1) := by decide +kernel
theorem dX1_namesWithLettersOf_8 : decode cX1_namesWithLettersOf 8 = .ok (.if_icmp .ge 24, 3) := by decide +kernel
theorem dX1_namesWithLettersOf_11 : decode cX1_namesWithLettersOf 11 = .ok (.iload_n 3, 1) := by decide +kernel
theorem dX1_namesWithLettersOf_12 : decode cX1_namesWithLettersOf 12 = .ok (.aload_n 0, 1) := by decide +kernel
theorem dX1_namesWithLettersOf_13 : decode cX1_namesWithLettersOf 13 = .ok (.getfield 9, 3) := by decide +kernel
theorem dX1_namesWithLettersOf_16 : decode cX1_namesWithLettersOf 16 = .ok (.iload_n 1, 1) := by decide +kernel
theorem dX1_namesWithLettersOf_17 : decode cX1_namesWithLettersOf 17 = .ok (.iload_n 2, 1) := by decide +kernel
theorem dX1_namesWithLettersOf_18 : decode cX1_namesWithLettersOf 18 = .ok (.iload 4, 2) := by decide +kernel
theorem dX1_namesWithLettersOf_20 : decode cX1_namesWithLettersOf 20 = .ok (.invokestatic 79, 3) := by decide +kernel
theorem dX1_namesWithLettersOf_23 : decode cX1_namesWithLettersOf 23 = .ok (.iaload, 1) := by decide +kernel
theorem dX1_namesWithLettersOf_24 : decode cX1_namesWithLettersOf 24 = .ok (.iadd, 1) := by decide +kernel
theorem dX1_namesWithLettersOf_25 : decode cX1_namesWithLettersOf 25 = .ok (.istore_n 3, 1) := by decide +kernel
theorem dX1_namesWithLettersOf_26 : decode cX1_namesWithLettersOf 26 = .ok (.iinc 4 1, 3) := by decide +kernel
theorem dX1_namesWithLettersOf_29 : decode cX1_namesWithLettersOf 29 = .ok (.goto (-24), 3) := by decide +kernel
theorem dX1_namesWithLettersOf_32 : decode cX1_namesWithLettersOf 32 = .ok (.iload_n 3, 1) := by decide +kernel
theorem dX1_namesWithLettersOf_33 : decode cX1_namesWithLettersOf 33 = .ok (.ireturn, 1) := by decide +kernel
theorem dX2_init_0 : decode cX2_init 0 = .ok (.aload_n 0, 1) := by decide +kernel
theorem dX2_init_1 : decode cX2_init 1 = .ok (.invokespecial 3, 3) := by decide +kernel
theorem dX2_init_4 : decode cX2_init 4 = .ok (.aload_n 0, 1) := by decide +kernel
theorem dX2_init_5 : decode cX2_init 5 = .ok (.iconst 0, 1) := by decide +kernel
theorem dX2_init_6 : decode cX2_init 6 = .ok (.putfield 9, 3) := by decide +kernel
theorem dX2_init_9 : decode cX2_init 9 = .ok (.aload_n 0, 1) := by decide +kernel
theorem dX2_init_10 : decode cX2_init 10 = .ok (.bipush 40, 2) := by decide +kernel
theorem dX2_init_12 : decode cX2_init 12 = .ok (.newarray .int, 2) := by decide +kernel
theorem dX2_init_14 : decode cX2_init 14 = .ok (.putfield 15, 3) := by decide +kernel
theorem dX2_init_17 : decode cX2_init 17 = .ok (.aload_n 0, 1) := by decide +kernel
theorem dX2_init_18 : decode cX2_init 18 = .ok (.bipush 40, 2) := by decide +kernel
theorem dX2_init_20 : decode cX2_init 20 = .ok (.newarray .int, 2) := by decide +kernel
theorem dX2_init_22 : decode cX2_init 22 = .ok (.putfield 19, 3) := by decide +kernel
theorem dX2_init_25 : decode cX2_init 25 = .ok (.aload_n 0, 1) := by decide +kernel
theorem dX2_init_26 : decode cX2_init 26 = .ok (.bipush 40, 2) := by decide +kernel
theorem dX2_init_28 : decode cX2_init 28 = .ok (.newarray .int, 2) := by decide +kernel
theorem dX2_init_30 : decode cX2_init 30 = .ok (.putfield 22, 3) := by decide +kernel
theorem dX2_init_33 : decode cX2_init 33 = .ok (.aload_n 0, 1) := by decide +kernel
theorem dX2_init_34 : decode cX2_init 34 = .ok (.bipush 40, 2) := by decide +kernel
theorem dX2_init_36 : decode cX2_init 36 = .ok (.newarray .int, 2) := by decide +kernel
theorem dX2_init_38 : decode cX2_init 38 = .ok (.putfield 25, 3) := by decide +kernel
theorem dX2_init_41 : decode cX2_init 41 = .ok (.aload_n 0, 1) := by decide +kernel
theorem dX2_init_42 : decode cX2_init 42 = .ok (.bipush 40, 2) := by decide +kernel
theorem dX2_init_44 : decode cX2_init 44 = .ok (.newarray .int, 2) := by decide +kernel
theorem dX2_init_46 : decode cX2_init 46 = .ok (.putfield 28, 3) := by decide +kernel
theorem dX2_init_49 : decode cX2_init 49 = .ok (.aload_n 0, 1) := by decide +kernel
theorem dX2_init_50 : decode cX2_init 50 = .ok (.bipush 40, 2) := by decide +kernel
theorem dX2_init_52 : decode cX2_init 52 = .ok (.newarray .int, 2) := by decide +kernel
theorem dX2_init_54 : decode cX2_init 54 = .ok (.putfield 31, 3) := by decide +kernel
theorem dX2_init_57 : decode cX2_init 57 = .ok (.aload_n 0, 1) := by decide +kernel
theorem dX2_init_58 : decode cX2_init 58 = .ok (.bipush 40, 2) := by decide +kernel
theorem dX2_init_60 : decode cX2_init 60 = .ok (.newarray .int, 2) := by decide +kernel
theorem dX2_init_62 : decode cX2_init 62 = .ok (.putfield 34, 3) := by decide +kernel
theorem dX2_init_65 : decode cX2_init 65 = .ok (.aload_n 0, 1) := by decide +kernel
theorem dX2_init_66 : decode cX2_init 66 = .ok (.bipush 40, 2) := by decide +kernel
theorem dX2_init_68 : decode cX2_init 68 = .ok (.newarray .boolean, 2) := by decide +kernel
theorem dX2_init_70 : decode cX2_init 70 = .ok (.putfield 37, 3) := by decide +kernel
theorem dX2_init_73 : decode cX2_init 73 = .ok (.return_, 1) := by decide +kernel
theorem dX2_copyFrom_0 : decode cX2_copyFrom 0 = .ok (.aload_n 0, 1) := by decide +kernel
theorem dX2_copyFrom_1 : decode cX2_copyFrom 1 = .ok (.aload_n 1, 1) := by decide +kernel
theorem dX2_copyFrom_2 : decode cX2_copyFrom 2 = .ok (.getfield 9, 3) := by decide +kernel
theorem dX2_copyFrom_5 : decode cX2_copyFrom 5 = .ok (.putfield 9, 3) := by decide +kernel
theorem dX2_copyFrom_8 : decode cX2_copyFrom 8 = .ok (.aload_n 1, 1) := by decide +kernel
theorem dX2_copyFrom_9 : decode cX2_copyFrom 9 = .ok (.getfield 15, 3) := by decide +kernel
theorem dX2_copyFrom_12 : decode cX2_copyFrom 12 = .ok (.iconst 0, 1) := by decide +kernel
theorem dX2_copyFrom_13 : decode cX2_copyFrom 13 = .ok (.aload_n 0, 1) := by decide +kernel
theorem dX2_copyFrom_14 : decode cX2_copyFrom 14 = .ok (.getfield 15, 3) := by decide +kernel
theorem dX2_copyFrom_17 : decode cX2_copyFrom 17 = .ok (.iconst 0, 1) := by decide +kernel
theorem dX2_copyFrom_18 : decode cX2_copyFrom 18 = .ok (.bipush 40, 2) := by decide +kernel
theorem dX2_copyFrom_20 : decode cX2_copyFrom 20 = .ok (.invokestatic 41, 3) := by decide +kernel
theorem dX2_copyFrom_23 : decode cX2_copyFrom 23 = .ok (.aload_n 1, 1) := by decide +kernel
theorem dX2_copyFrom_24 : decode cX2_copyFrom 24 = .ok (.getfield 19, 3) := by decide +kernel
theorem dX2_copyFrom_27 : decode cX2_copyFrom 27 = .ok (.iconst 0, 1) := by decide +kernel
theorem dX2_copyFrom_28 : decode cX2_copyFrom 28 = .ok (.aload_n 0, 1) := by decide +kernel
theorem dX2_copyFrom_29 : decode cX2_copyFrom 29 = .ok (.getfield 19, 3) := by decide +kernel
theorem dX2_copyFrom_32 : decode cX2_copyFrom 32 = .ok (.iconst 0, 1) := by decide +kernel
theorem dX2_copyFrom_33 : decode cX2_copyFrom 33 = .ok (.bipush 40, 2) := by decide +kernel
theorem dX2_copyFrom_35 : decode cX2_copyFrom 35 = .ok (.invokestatic 41, 3) := by decide +kernel
theorem dX2_copyFrom_38 : decode cX2_copyFrom 38 = .ok (.aload_n 1, 1) := by decide +kernel
theorem dX2_copyFrom_39 : decode cX2_copyFrom 39 = .ok (.getfield 22, 3) := by decide +kernel
theorem dX2_copyFrom_42 : decode cX2_copyFrom 42 = .ok (.iconst 0, 1) := by decide +kernel
theorem dX2_copyFrom_43 : decode cX2_copyFrom 43 = .ok (.aload_n 0, 1) := by decide +kernel
theorem dX2_copyFrom_44 : decode cX2_copyFrom 44 = .ok (.getfield 22, 3) := by decide +kernel
theorem dX2_copyFrom_47 : decode cX2_copyFrom 47 = .ok (.iconst 0, 1) := by decide +kernel
theorem dX2_copyFrom_48 : decode cX2_copyFrom 48 = .ok (.bipush 40, 2) := by decide +kernel
theorem dX2_copyFrom_50 : decode cX2_copyFrom 50 = .ok (.invokestatic 41, 3) := by decide +kernel
theorem dX2_copyFrom_53 : decode cX2_copyFrom 53 = .ok (.aload_n 1, 1) := by decide +kernel
theorem dX2_copyFrom_54 : decode cX2_copyFrom 54 = .ok (.getfield 25, 3) := by decide +kernel
theorem dX2_copyFrom_57 : decode cX2_copyFrom 57 = .ok (.iconst 0, 1) := by decide +kernel
theorem dX2_copyFrom_58 : decode cX2_copyFrom 58 = .ok (.aload_n 0, 1) := by decide +kernel
theorem dX2_copyFrom_59 : decode cX2_copyFrom 59 = .ok (.getfield 25, 3) := by decide +kernel
theorem dX2_copyFrom_62 : decode cX2_copyFrom 62 = .ok (.iconst 0, 1) := by decide +kernel
theorem dX2_copyFrom_63 : decode cX2_copyFrom 63 = .ok (.bipush 40, 2) := by decide +kernel
theorem dX2_copyFrom_65 : decode cX2_copyFrom 65 = .ok (.invokestatic 41, 3) := by decide +kernel
theorem dX2_copyFrom_68 : decode cX2_copyFrom 68 = .ok (.aload_n 1, 1) := by decide +kernel
theorem dX2_copyFrom_69 : decode cX2_copyFrom 69 = .ok (.getfield 28, 3) := by decide +kernel
theorem dX2_copyFrom_72 : decode cX2_copyFrom 72 = .ok (.iconst 0, 1) := by decide +kernel
theorem dX2_copyFrom_73 : decode cX2_copyFrom 73 = .ok (.aload_n 0, 1) := by decide +kernel
theorem dX2_copyFrom_74 : decode cX2_copyFrom 74 = .ok (.getfield 28, 3) := by decide +kernel
theorem dX2_copyFrom_77 : decode cX2_copyFrom 77 = .ok (.iconst 0, 1) := by decide +kernel
theorem dX2_copyFrom_78 : decode cX2_copyFrom 78 = .ok (.bipush 40, 2) := by decide +kernel
theorem dX2_copyFrom_80 : decode cX2_copyFrom 80 = .ok (.invokestatic 41, 3) := by decide +kernel
theorem dX2_copyFrom_83 : decode cX2_copyFrom 83 = .ok (.aload_n 1, 1) := by decide +kernel
theorem dX2_copyFrom_84 : decode cX2_copyFrom 84 = .ok (.getfield 31, 3) := by decide +kernel
theorem dX2_copyFrom_87 : decode cX2_copyFrom 87 = .ok (.iconst 0, 1) := by decide +kernel
theorem dX2_copyFrom_88 : decode cX2_copyFrom 88 = .ok (.aload_n 0, 1) := by decide +kernel
theorem dX2_copyFrom_89 : decode cX2_copyFrom 89 = .ok (.getfield 31, 3) := by decide +kernel
theorem dX2_copyFrom_92 : decode cX2_copyFrom 92 = .ok (.iconst 0, 1) := by decide +kernel
theorem dX2_copyFrom_93 : decode cX2_copyFrom 93 = .ok (.bipush 40, 2) := by decide +kernel
theorem dX2_copyFrom_95 : decode cX2_copyFrom 95 = .ok (.invokestatic 41, 3) := by decide +kernel
theorem dX2_copyFrom_98 : decode cX2_copyFrom 98 = .ok (.aload_n 1, 1) := by decide +kernel
theorem dX2_copyFrom_99 : decode cX2_copyFrom 99 = .ok (.getfield 34, 3) := by decide +kernel
theorem dX2_copyFrom_102 : decode cX2_copyFrom 102 = .ok (.iconst 0, 1) := by decide +kernel
theorem dX2_copyFrom_103 : decode cX2_copyFrom 103 = .ok (.aload_n 0, 1) := by decide +kernel
theorem dX2_copyFrom_104 : decode cX2_copyFrom 104 = .ok (.getfield 34, 3) := by decide +kernel
theorem dX2_copyFrom_107 : decode cX2_copyFrom 107 = .ok (.iconst 0, 1) := by decide +kernel
theorem dX2_copyFrom_108 : decode cX2_copyFrom 108 = .ok (.bipush 40, 2) := by decide +kernel
theorem dX2_copyFrom_110 : decode cX2_copyFrom 110 = .ok (.invokestatic 41, 3) := by decide +kernel
theorem dX2_copyFrom_113 : decode cX2_copyFrom 113 = .ok (.aload_n 1, 1) := by decide +kernel
theorem dX2_copyFrom_114 : decode cX2_copyFrom 114 = .ok (.getfield 37, 3) := by decide +kernel
theorem dX2_copyFrom_117 : decode cX2_copyFrom 117 = .ok (.iconst 0, 1) := by decide +kernel
theorem dX2_copyFrom_118 : decode cX2_copyFrom 118 = .ok (.aload_n 0, 1) := by decide +kernel
theorem dX2_copyFrom_119 : decode cX2_copyFrom 119 = .ok (.getfield 37, 3) := by decide +kernel
theorem dX2_copyFrom_122 : decode cX2_copyFrom 122 = .ok (.iconst 0, 1) := by decide +kernel
theorem dX2_copyFrom_123 : decode cX2_copyFrom 123 = .ok (.bipush 40, 2) := by decide +kernel
theorem dX2_copyFrom_125 : decode cX2_copyFrom 125 = .ok (.invokestatic 41, 3) := by decide +kernel
theorem dX2_copyFrom_128 : decode cX2_copyFrom 128 = .ok (.return_, 1) := by decide +kernel
theorem dX2_has_0 : decode cX2_has 0 = .ok (.iload_n 1, 1) := by decide +kernel
theorem dX2_has_1 : decode cX2_has 1 = .ok (.ifCond .lt 15, 3) := by decide +kernel
theorem dX2_has_4 : decode cX2_has 4 = .ok (.iload_n 1, 1) := by decide +kernel
theorem dX2_has_5 : decode cX2_has 5 = .ok (.aload_n 0, 1) := by decide +kernel
theorem dX2_has_6 : decode cX2_has 6 = .ok (.getfield 9, 3) := by decide +kernel
theorem dX2_has_9 : decode cX2_has 9 = .ok (.if_icmp .ge 7, 3) := by decide +kernel
theorem dX2_has_12 : decode cX2_has 12 = .ok (.iconst 1, 1) := by decide +kernel
theorem dX2_has_13 : decode cX2_has 13 = .ok (.goto 4, 3) := by decide +kernel
theorem dX2_has_16 : decode cX2_has 16 = .ok (.iconst 0, 1) := by decide +kernel
theorem dX2_has_17 : decode cX2_has 17 = .ok (.ireturn, 1) := by decide +kernel
theorem dX2_isFull_0 : decode cX2_isFull 0 = .ok (.aload_n 0, 1) := by decide +kernel
theorem dX2_isFull_1 : decode cX2_isFull 1 = .ok (.getfield 9, 3) := by decide +kernel
theorem dX2_isFull_4 : decode cX2_isFull 4 = .ok (.bipush 40, 2) := by decide +kernel
theorem dX2_isFull_6 : decode cX2_isFull 6 = .ok (.if_icmp .lt 7, 3) := by decide +kernel
theorem dX2_isFull_9 : decode cX2_isFull 9 = .ok (.iconst 1, 1) := by decide +kernel
theorem dX2_isFull_10 : decode cX2_isFull 10 = .ok (.goto 4, 3) := by decide +kernel
theorem dX2_isFull_13 : decode cX2_isFull 13 = .ok (.iconst 0, 1) := by decide +kernel
theorem dX2_isFull_14 : decode cX2_isFull 14 = .ok (.ireturn, 1) := by decide +kernel
theorem dX2_add_0 : decode cX2_add 0 = .ok (.aload_n 0, 1) := by decide +kernel
theorem dX2_add_1 : decode cX2_add 1 = .ok (.invokevirtual 47, 3) := by decide +kernel
theorem dX2_add_4 : decode cX2_add 4 = .ok (.ifCond .eq 4, 3) := by decide +kernel
theorem dX2_add_7 : decode cX2_add 7 = .ok (.return_, 1) := by decide +kernel
theorem dX2_add_8 : decode cX2_add 8 = .ok (.aload_n 0, 1) := by decide +kernel
theorem dX2_add_9 : decode cX2_add 9 = .ok (.getfield 15, 3) := by decide +kernel
theorem dX2_add_12 : decode cX2_add 12 = .ok (.aload_n 0, 1) := by decide +kernel
theorem dX2_add_13 : decode cX2_add 13 = .ok (.getfield 9, 3) := by decide +kernel
theorem dX2_add_16 : decode cX2_add 16 = .ok (.iload_n 3, 1) := by decide +kernel
theorem dX2_add_17 : decode cX2_add 17 = .ok (.iastore, 1) := by decide +kernel
theorem dX2_add_18 : decode cX2_add 18 = .ok (.aload_n 0, 1) := by decide +kernel
theorem dX2_add_19 : decode cX2_add 19 = .ok (.getfield 19, 3) := by decide +kernel
theorem dX2_add_22 : decode cX2_add 22 = .ok (.aload_n 0, 1) := by decide +kernel
theorem dX2_add_23 : decode cX2_add 23 = .ok (.getfield 9, 3) := by decide +kernel
theorem dX2_add_26 : decode cX2_add 26 = .ok (.iload 4, 2) := by decide +kernel
theorem dX2_add_28 : decode cX2_add 28 = .ok (.iastore, 1) := by decide +kernel
theorem dX2_add_29 : decode cX2_add 29 = .ok (.aload_n 0, 1) := by decide +kernel
theorem dX2_add_30 : decode cX2_add 30 = .ok (.getfield 22, 3) := by decide +kernel
theorem dX2_add_33 : decode cX2_add 33 = .ok (.aload_n 0, 1) := by decide +kernel
theorem dX2_add_34 : decode cX2_add 34 = .ok (.getfield 9, 3) := by decide +kernel
theorem dX2_add_37 : decode cX2_add 37 = .ok (.iload_n 1, 1) := by decide +kernel
theorem dX2_add_38 : decode cX2_add 38 = .ok (.iastore, 1) := by decide +kernel
theorem dX2_add_39 : decode cX2_add 39 = .ok (.aload_n 0, 1) := by decide +kernel
theorem dX2_add_40 : decode cX2_add 40 = .ok (.getfield 25, 3) := by decide +kernel
theorem dX2_add_43 : decode cX2_add 43 = .ok (.aload_n 0, 1) := by decide +kernel
theorem dX2_add_44 : decode cX2_add 44 = .ok (.getfield 9, 3) := by decide +kernel
theorem dX2_add_47 : decode cX2_add 47 = .ok (.iload_n 2, 1) := by decide +kernel
theorem dX2_add_48 : decode cX2_add 48 = .ok (.iastore, 1) := by decide +kernel
theorem dX2_add_49 : decode cX2_add 49 = .ok (.aload_n 0, 1) := by decide +kernel
theorem dX2_add_50 : decode cX2_add 50 = .ok (.getfield 28, 3) := by decide +kernel
theorem dX2_add_53 : decode cX2_add 53 = .ok (.aload_n 0, 1) := by decide +kernel
theorem dX2_add_54 : decode cX2_add 54 = .ok (.getfield 9, 3) := by decide +kernel
theorem dX2_add_57 : decode cX2_add 57 = .ok (.iconst 0, 1) := by decide +kernel
theorem dX2_add_58 : decode cX2_add 58 = .ok (.iastore, 1) := by decide +kernel
theorem dX2_add_59 : decode cX2_add 59 = .ok (.aload_n 0, 1) := by decide +kernel
theorem dX2_add_60 : decode cX2_add 60 = .ok (.getfield 31, 3) := by decide +kernel
theorem dX2_add_63 : decode cX2_add 63 = .ok (.aload_n 0, 1) := by decide +kernel
theorem dX2_add_64 : decode cX2_add 64 = .ok (.getfield 9, 3) := by decide +kernel
theorem dX2_add_67 : decode cX2_add 67 = .ok (.iload 5, 2) := by decide +kernel
theorem dX2_add_69 : decode cX2_add 69 = .ok (.iastore, 1) := by decide +kernel
theorem dX2_add_70 : decode cX2_add 70 = .ok (.aload_n 0, 1) := by decide +kernel
theorem dX2_add_71 : decode cX2_add 71 = .ok (.getfield 34, 3) := by decide +kernel
theorem dX2_add_74 : decode cX2_add 74 = .ok (.aload_n 0, 1) := by decide +kernel
theorem dX2_add_75 : decode cX2_add 75 = .ok (.getfield 9, 3) := by decide +kernel
theorem dX2_add_78 : decode cX2_add 78 = .ok (.iconst 0, 1) := by decide +kernel
theorem dX2_add_79 : decode cX2_add 79 = .ok (.iastore, 1) := by decide +kernel
theorem dX2_add_80 : decode cX2_add 80 = .ok (.aload_n 0, 1) := by decide +kernel
theorem dX2_add_81 : decode cX2_add 81 = .ok (.getfield 37, 3) := by decide +kernel
theorem dX2_add_84 : decode cX2_add 84 = .ok (.aload_n 0, 1) := by decide +kernel
theorem dX2_add_85 : decode cX2_add 85 = .ok (.getfield 9, 3) := by decide +kernel
theorem dX2_add_88 : decode cX2_add 88 = .ok (.iconst 0, 1) := by decide +kernel
theorem dX2_add_89 : decode cX2_add 89 = .ok (.bastore, 1) := by decide +kernel
theorem dX2_add_90 : decode cX2_add 90 = .ok (.aload_n 0, 1) := by decide +kernel
theorem dX2_add_91 : decode cX2_add 91 = .ok (.dup, 1) := by decide +kernel
theorem dX2_add_92 : decode cX2_add 92 = .ok (.getfield 9, 3) := by decide +kernel
theorem dX2_add_95 : decode cX2_add 95 = .ok (.iconst 1, 1) := by decide +kernel
theorem dX2_add_96 : decode cX2_add 96 = .ok (.iadd, 1) := by decide +kernel
theorem dX2_add_97 : decode cX2_add 97 = .ok (.putfield 9, 3) := by decide +kernel
theorem dX2_add_100 : decode cX2_add 100 = .ok (.return_, 1) := by decide +kernel
theorem dX2_use_0 : decode cX2_use 0 = .ok (.aload_n 0, 1) := by decide +kernel
theorem dX2_use_1 : decode cX2_use 1 = .ok (.getfield 28, 3) := by decide +kernel
theorem dX2_use_4 : decode cX2_use 4 = .ok (.iload_n 1, 1) := by decide +kernel
theorem dX2_use_5 : decode cX2_use 5 = .ok (.dup2, 1) := by decide +kernel
theorem dX2_use_6 : decode cX2_use 6 = .ok (.iaload, 1) := by decide +kernel
theorem dX2_use_7 : decode cX2_use 7 = .ok (.iconst 1, 1) := by decide +kernel
theorem dX2_use_8 : decode cX2_use 8 = .ok (.iadd, 1) := by decide +kernel
theorem dX2_use_9 : decode cX2_use 9 = .ok (.iastore, 1) := by decide +kernel
theorem dX2_use_10 : decode cX2_use 10 = .ok (.aload_n 0, 1) := by decide +kernel
theorem dX2_use_11 : decode cX2_use 11 = .ok (.getfield 31, 3) := by decide +kernel
theorem dX2_use_14 : decode cX2_use 14 = .ok (.iload_n 1, 1) := by decide +kernel
theorem dX2_use_15 : decode cX2_use 15 = .ok (.iload_n 2, 1) := by decide +kernel
theorem dX2_use_16 : decode cX2_use 16 = .ok (.iastore, 1) := by decide +kernel
theorem dX2_use_17 : decode cX2_use 17 = .ok (.aload_n 0, 1) := by decide +kernel
theorem dX2_use_18 : decode cX2_use 18 = .ok (.getfield 34, 3) := by decide +kernel
theorem dX2_use_21 : decode cX2_use 21 = .ok (.iload_n 1, 1) := by decide +kernel
theorem dX2_use_22 : decode cX2_use 22 = .ok (.iaload, 1) := by decide +kernel
theorem dX2_use_23 : decode cX2_use 23 = .ok (.ifCond .ne 27, 3) := by decide +kernel
theorem dX2_use_26 : decode cX2_use 26 = .ok (.aload_n 0, 1) := by decide +kernel
theorem dX2_use_27 : decode cX2_use 27 = .ok (.getfield 28, 3) := by decide +kernel
theorem dX2_use_30 : decode cX2_use 30 = .ok (.iload_n 1, 1) := by decide +kernel
theorem dX2_use_31 : decode cX2_use 31 = .ok (.iaload, 1) := by decide +kernel
theorem dX2_use_32 : decode cX2_use 32 = .ok (.iload_n 3, 1) := by decide +kernel
theorem dX2_use_33 : decode cX2_use 33 = .ok (.if_icmp .lt 17, 3) := by decide +kernel
theorem dX2_use_36 : decode cX2_use 36 = .ok (.aload_n 0, 1) := by decide +kernel
theorem dX2_use_37 : decode cX2_use 37 = .ok (.getfield 34, 3) := by decide +kernel
theorem dX2_use_40 : decode cX2_use 40 = .ok (.iload_n 1, 1) := by decide +kernel
theorem dX2_use_41 : decode cX2_use 41 = .ok (.iconst 1, 1) := by decide +kernel
theorem dX2_use_42 : decode cX2_use 42 = .ok (.iastore, 1) := by decide +kernel
theorem dX2_use_43 : decode cX2_use 43 = .ok (.aload_n 0, 1) := by decide +kernel
theorem dX2_use_44 : decode cX2_use 44 = .ok (.getfield 37, 3) := by decide +kernel
theorem dX2_use_47 : decode cX2_use 47 = .ok (.iload_n 1, 1) := by decide +kernel
theorem dX2_use_48 : decode cX2_use 48 = .ok (.iconst 1, 1) := by decide +kernel
theorem dX2_use_49 : decode cX2_use 49 = .ok (.bastore, 1) := by decide +kernel
theorem dX2_use_50 : decode cX2_use 50 = .ok (.return_, 1) := by decide +kernel
theorem dX2_isAlive_0 : decode cX2_isAlive 0 = .ok (.aload_n 0, 1) := by decide +kernel
theorem dX2_isAlive_1 : decode cX2_isAlive 1 = .ok (.getfield 34, 3) := by decide +kernel
theorem dX2_isAlive_4 : decode cX2_isAlive 4 = .ok (.iload_n 1, 1) := by decide +kernel
theorem dX2_isAlive_5 : decode cX2_isAlive 5 = .ok (.iaload, 1) := by decide +kernel
theorem dX2_isAlive_6 : decode cX2_isAlive 6 = .ok (.iconst 1, 1) := by decide +kernel
theorem dX2_isAlive_7 : decode cX2_isAlive 7 = .ok (.if_icmp .gt 7, 3) := by decide +kernel
theorem dX2_isAlive_10 : decode cX2_isAlive 10 = .ok (.iconst 1, 1) := by decide +kernel
theorem dX2_isAlive_11 : decode cX2_isAlive 11 = .ok (.goto 4, 3) := by decide +kernel
theorem dX2_isAlive_14 : decode cX2_isAlive 14 = .ok (.iconst 0, 1) := by decide +kernel
theorem dX2_isAlive_15 : decode cX2_isAlive 15 = .ok (.ireturn, 1) := by decide +kernel
theorem dX2_isAliveAs_0 : decode cX2_isAliveAs 0 = .ok (.aload_n 0, 1) := by decide +kernel
theorem dX2_isAliveAs_1 : decode cX2_isAliveAs 1 = .ok (.getfield 34, 3) := by decide +kernel
theorem dX2_isAliveAs_4 : decode cX2_isAliveAs 4 = .ok (.iload_n 1, 1) := by decide +kernel
theorem dX2_isAliveAs_5 : decode cX2_isAliveAs 5 = .ok (.iaload, 1) := by decide +kernel
theorem dX2_isAliveAs_6 : decode cX2_isAliveAs 6 = .ok (.iconst 1, 1) := by decide +kernel
theorem dX2_isAliveAs_7 : decode cX2_isAliveAs 7 = .ok (.if_icmp .gt 27, 3) := by decide +kernel
theorem dX2_isAliveAs_10 : decode cX2_isAliveAs 10 = .ok (.aload_n 0, 1) := by decide +kernel
theorem dX2_isAliveAs_11 : decode cX2_isAliveAs 11 = .ok (.getfield 15, 3) := by decide +kernel
theorem dX2_isAliveAs_14 : decode cX2_isAliveAs 14 = .ok (.iload_n 1, 1) := by decide +kernel
theorem dX2_isAliveAs_15 : decode cX2_isAliveAs 15 = .ok (.iaload, 1) := by decide +kernel
theorem dX2_isAliveAs_16 : decode cX2_isAliveAs 16 = .ok (.iload_n 2, 1) := by decide +kernel
theorem dX2_isAliveAs_17 : decode cX2_isAliveAs 17 = .ok (.if_icmp .ne 17, 3) := by decide +kernel
theorem dX2_isAliveAs_20 : decode cX2_isAliveAs 20 = .ok (.aload_n 0, 1) := by decide +kernel
theorem dX2_isAliveAs_21 : decode cX2_isAliveAs 21 = .ok (.getfield 19, 3) := by decide +kernel
theorem dX2_isAliveAs_24 : decode cX2_isAliveAs 24 = .ok (.iload_n 1, 1) := by decide +kernel
theorem dX2_isAliveAs_25 : decode cX2_isAliveAs 25 = .ok (.iaload, 1) := by decide +kernel
theorem dX2_isAliveAs_26 : decode cX2_isAliveAs 26 = .ok (.iload_n 3, 1) := by decide +kernel
theorem dX2_isAliveAs_27 : decode cX2_isAliveAs 27 = .ok (.if_icmp .ne 7, 3) := by decide +kernel
theorem dX2_isAliveAs_30 : decode cX2_isAliveAs 30 = .ok (.iconst 1, 1) := by decide +kernel
theorem dX2_isAliveAs_31 : decode cX2_isAliveAs 31 = .ok (.goto 4, 3) := by decide +kernel
theorem dX2_isAliveAs_34 : decode cX2_isAliveAs 34 = .ok (.iconst 0, 1) := by decide +kernel
theorem dX2_isAliveAs_35 : decode cX2_isAliveAs 35 = .ok (.ireturn, 1) := by decide +kernel
theorem dX2_aliveNameOf_0 : decode cX2_aliveNameOf 0 = .ok (.iconst 0, 1) := by decide +kernel
theorem dX2_aliveNameOf_1 : decode cX2_aliveNameOf 1 = .ok (.istore 4, 2) := by decide +kernel
theorem dX2_aliveNameOf_3 : decode cX2_aliveNameOf 3 = .ok (.iload 4, 2) := by decide +kernel
theorem dX2_aliveNameOf_5 : decode cX2_aliveNameOf 5 = .ok (.aload_n 0, 1) := by decide +kernel
theorem dX2_aliveNameOf_6 : decode cX2_aliveNameOf 6 = .ok (.getfield 9, 3) := by decide +kernel
theorem dX2_aliveNameOf_9 : decode cX2_aliveNameOf 9 = .ok (.if_icmp .ge 34, 3) := by decide +kernel
theorem dX2_aliveNameOf_12 : decode cX2_aliveNameOf 12 = .ok (.aload_n 0, 1) := by decide +kernel
theorem dX2_aliveNameOf_13 : decode cX2_aliveNameOf 13 = .ok (.getfield 25, 3) := by decide +kernel
theorem dX2_aliveNameOf_16 : decode cX2_aliveNameOf 16 = .ok (.iload 4, 2) := by decide +kernel
theorem dX2_aliveNameOf_18 : decode cX2_aliveNameOf 18 = .ok (.iaload, 1) := by decide +kernel
theorem dX2_aliveNameOf_19 : decode cX2_aliveNameOf 19 = .ok (.iload_n 1, 1) := by decide +kernel
theorem dX2_aliveNameOf_20 : decode cX2_aliveNameOf 20 = .ok (.if_icmp .ne 17, 3) := by decide +kernel
theorem dX2_aliveNameOf_23 : decode cX2_aliveNameOf 23 = .ok (.aload_n 0, 1) := by decide +kernel
theorem dX2_aliveNameOf_24 : decode cX2_aliveNameOf 24 = .ok (.iload 4, 2) := by decide +kernel
theorem dX2_aliveNameOf_26 : decode cX2_aliveNameOf 26 = .ok (.iload_n 2, 1) := by decide +kernel
theorem dX2_aliveNameOf_27 : decode cX2_aliveNameOf 27 = .ok (.iload_n 3, 1) := by decide +kernel
theorem dX2_aliveNameOf_28 : decode cX2_aliveNameOf 28 = .ok (.invokevirtual 51, 3) := by decide +kernel
theorem dX2_aliveNameOf_31 : decode cX2_aliveNameOf 31 = .ok (.ifCond .eq 6, 3) := by decide +kernel
theorem dX2_aliveNameOf_34 : decode cX2_aliveNameOf 34 = .ok (.iload 4, 2) := by decide +kernel
theorem dX2_aliveNameOf_36 : decode cX2_aliveNameOf 36 = .ok (.ireturn, 1) := by decide +kernel
theorem dX2_aliveNameOf_37 : decode cX2_aliveNameOf 37 = .ok (.iinc 4 1, 3) := by decide +kernel
theorem dX2_aliveNameOf_40 : decode cX2_aliveNameOf 40 = .ok (.goto (-37), 3) := by decide +kernel
theorem dX2_aliveNameOf_43 : decode cX2_aliveNameOf 43 = .ok (.iconst (-1), 1) := by decide +kernel
theorem dX2_aliveNameOf_44 : decode cX2_aliveNameOf 44 = .ok (.ireturn, 1) := by decide +kernel
theorem dX2_alive_0 : decode cX2_alive 0 = .ok (.aload_n 0, 1) := by decide +kernel
theorem dX2_alive_1 : decode cX2_alive 1 = .ok (.iconst 0, 1) := by decide +kernel
theorem dX2_alive_2 : decode cX2_alive 2 = .ok (.invokevirtual 55, 3) := by decide +kernel
theorem dX2_alive_5 : decode cX2_alive 5 = .ok (.aload_n 0, 1) := by decide +kernel
theorem dX2_alive_6 : decode cX2_alive 6 = .ok (.iconst 1, 1) := by decide +kernel
theorem dX2_alive_7 : decode cX2_alive 7 = .ok (.invokevirtual 55, 3) := by decide +kernel
theorem dX2_alive_10 : decode cX2_alive 10 = .ok (.iadd, 1) := by decide +kernel
theorem dX2_alive_11 : decode cX2_alive 11 = .ok (.ireturn, 1) := by decide +kernel
theorem dX2_inState_0 : decode cX2_inState 0 = .ok (.iconst 0, 1) := by decide +kernel
theorem dX2_inState_1 : decode cX2_inState 1 = .ok (.istore_n 2, 1) := by decide +kernel
theorem dX2_inState_2 : decode cX2_inState 2 = .ok (.iconst 0, 1) := by decide +kernel
theorem dX2_inState_3 : decode cX2_inState 3 = .ok (.istore_n 3, 1) := by decide +kernel
theorem dX2_inState_4 : decode cX2_inState 4 = .ok (.iload_n 3, 1) := by decide +kernel
theorem dX2_inState_5 : decode cX2_inState 5 = .ok (.aload_n 0, 1) := by decide +kernel
theorem dX2_inState_6 : decode cX2_inState 6 = .ok (.getfield 9, 3) := by decide +kernel
theorem dX2_inState_9 : decode cX2_inState 9 = .ok (.if_icmp .ge 22, 3) := by decide +kernel
theorem dX2_inState_12 : decode cX2_inState 12 = .ok (.aload_n 0, 1) := by decide +kernel
theorem dX2_inState_13 : decode cX2_inState 13 = .ok (.getfield 34, 3) := by decide +kernel
theorem dX2_inState_16 : decode cX2_inState 16 = .ok (.iload_n 3, 1) := by decide +kernel
theorem dX2_inState_17 : decode cX2_inState 17 = .ok (.iaload, 1) := by decide +kernel
theorem dX2_inState_18 : decode cX2_inState 18 = .ok (.iload_n 1, 1) := by decide +kernel
theorem dX2_inState_19 : decode cX2_inState 19 = .ok (.if_icmp .ne 6, 3) := by decide +kernel
theorem dX2_inState_22 : decode cX2_inState 22 = .ok (.iinc 2 1, 3) := by decide +kernel
theorem dX2_inState_25 : decode cX2_inState 25 = .ok (.iinc 3 1, 3) := by decide +kernel
theorem dX2_inState_28 : decode cX2_inState 28 = .ok (.goto (-24), 3) := by decide +kernel
theorem dX2_inState_31 : decode cX2_inState 31 = .ok (.iload_n 2, 1) := by decide +kernel
theorem dX2_inState_32 : decode cX2_inState 32 = .ok (.ireturn, 1) := by decide +kernel
theorem dX2_aliveOf_0 : decode cX2_aliveOf 0 = .ok (.iconst 0, 1) := by decide +kernel
theorem dX2_aliveOf_1 : decode cX2_aliveOf 1 = .ok (.istore_n 2, 1) := by decide +kernel
theorem dX2_aliveOf_2 : decode cX2_aliveOf 2 = .ok (.iconst 0, 1) := by decide +kernel
theorem dX2_aliveOf_3 : decode cX2_aliveOf 3 = .ok (.istore_n 3, 1) := by decide +kernel
theorem dX2_aliveOf_4 : decode cX2_aliveOf 4 = .ok (.iload_n 3, 1) := by decide +kernel
theorem dX2_aliveOf_5 : decode cX2_aliveOf 5 = .ok (.aload_n 0, 1) := by decide +kernel
theorem dX2_aliveOf_6 : decode cX2_aliveOf 6 = .ok (.getfield 9, 3) := by decide +kernel
theorem dX2_aliveOf_9 : decode cX2_aliveOf 9 = .ok (.if_icmp .ge 32, 3) := by decide +kernel
theorem dX2_aliveOf_12 : decode cX2_aliveOf 12 = .ok (.aload_n 0, 1) := by decide +kernel
theorem dX2_aliveOf_13 : decode cX2_aliveOf 13 = .ok (.getfield 25, 3) := by decide +kernel
theorem dX2_aliveOf_16 : decode cX2_aliveOf 16 = .ok (.iload_n 3, 1) := by decide +kernel
theorem dX2_aliveOf_17 : decode cX2_aliveOf 17 = .ok (.iaload, 1) := by decide +kernel
theorem dX2_aliveOf_18 : decode cX2_aliveOf 18 = .ok (.iload_n 1, 1) := by decide +kernel
theorem dX2_aliveOf_19 : decode cX2_aliveOf 19 = .ok (.if_icmp .ne 16, 3) := by decide +kernel
theorem dX2_aliveOf_22 : decode cX2_aliveOf 22 = .ok (.aload_n 0, 1) := by decide +kernel
theorem dX2_aliveOf_23 : decode cX2_aliveOf 23 = .ok (.getfield 34, 3) := by decide +kernel
theorem dX2_aliveOf_26 : decode cX2_aliveOf 26 = .ok (.iload_n 3, 1) := by decide +kernel
theorem dX2_aliveOf_27 : decode cX2_aliveOf 27 = .ok (.iaload, 1) := by decide +kernel
theorem dX2_aliveOf_28 : decode cX2_aliveOf 28 = .ok (.iconst 1, 1) := by decide +kernel
theorem dX2_aliveOf_29 : decode cX2_aliveOf 29 = .ok (.if_icmp .gt 6, 3) := by decide +kernel
theorem dX2_aliveOf_32 : decode cX2_aliveOf 32 = .ok (.iinc 2 1, 3) := by decide +kernel
theorem dX2_aliveOf_35 : decode cX2_aliveOf 35 = .ok (.iinc 3 1, 3) := by decide +kernel
theorem dX2_aliveOf_38 : decode cX2_aliveOf 38 = .ok (.goto (-34), 3) := by decide +kernel
theorem dX2_aliveOf_41 : decode cX2_aliveOf 41 = .ok (.iload_n 2, 1) := by decide +kernel
theorem dX2_aliveOf_42 : decode cX2_aliveOf 42 = .ok (.ireturn, 1) := by decide +kernel
theorem dX2_usesTogether_0 : decode cX2_usesTogether 0 = .ok (.iconst 0, 1) := by decide +kernel
theorem dX2_usesTogether_1 : decode cX2_usesTogether 1 = .ok (.istore_n 1, 1) := by decide +kernel
theorem dX2_usesTogether_2 : decode cX2_usesTogether 2 = .ok (.iconst 0, 1) := by decide +kernel
theorem dX2_usesTogether_3 : decode cX2_usesTogether 3 = .ok (.istore_n 2, 1) := by decide +kernel
theorem dX2_usesTogether_4 : decode cX2_usesTogether 4 = .ok (.iload_n 2, 1) := by decide +kernel
theorem dX2_usesTogether_5 : decode cX2_usesTogether 5 = .ok (.aload_n 0, 1) := by decide +kernel
theorem dX2_usesTogether_6 : decode cX2_usesTogether 6 = .ok (.getfield 9, 3) := by decide +kernel
theorem dX2_usesTogether_9 : decode cX2_usesTogether 9 = .ok (.if_icmp .ge 18, 3) := by decide +kernel
theorem dX2_usesTogether_12 : decode cX2_usesTogether 12 = .ok (.iload_n 1, 1) := by decide +kernel
theorem dX2_usesTogether_13 : decode cX2_usesTogether 13 = .ok (.aload_n 0, 1) := by decide +kernel
theorem dX2_usesTogether_14 : decode cX2_usesTogether 14 = .ok (.getfield 28, 3) := by decide +kernel
theorem dX2_usesTogether_17 : decode cX2_usesTogether 17 = .ok (.iload_n 2, 1) := by decide +kernel
theorem dX2_usesTogether_18 : decode cX2_usesTogether 18 = .ok (.iaload, 1) := by decide +kernel
theorem dX2_usesTogether_19 : decode cX2_usesTogether 19 = .ok (.iadd, 1) := by decide +kernel
theorem dX2_usesTogether_20 : decode cX2_usesTogether 20 = .ok (.istore_n 1, 1) := by decide +kernel
theorem dX2_usesTogether_21 : decode cX2_usesTogether 21 = .ok (.iinc 2 1, 3) := by decide +kernel
theorem dX2_usesTogether_24 : decode cX2_usesTogether 24 = .ok (.goto (-20), 3) := by decide +kernel
theorem dX2_usesTogether_27 : decode cX2_usesTogether 27 = .ok (.iload_n 1, 1) := by decide +kernel
theorem dX2_usesTogether_28 : decode cX2_usesTogether 28 = .ok (.ireturn, 1) := by decide +kernel
theorem dX2_givenBy_0 : decode cX2_givenBy 0 = .ok (.iconst 0, 1) := by decide +kernel
theorem dX2_givenBy_1 : decode cX2_givenBy 1 = .ok (.istore_n 2, 1) := by decide +kernel
theorem dX2_givenBy_2 : decode cX2_givenBy 2 = .ok (.iconst 0, 1) := by decide +kernel
theorem dX2_givenBy_3 : decode cX2_givenBy 3 = .ok (.istore_n 3, 1) := by decide +kernel
theorem dX2_givenBy_4 : decode cX2_givenBy 4 = .ok (.iload_n 3, 1) := by decide +kernel
theorem dX2_givenBy_5 : decode cX2_givenBy 5 = .ok (.aload_n 0, 1) := by decide +kernel
theorem dX2_givenBy_6 : decode cX2_givenBy 6 = .ok (.getfield 9, 3) := by decide +kernel
theorem dX2_givenBy_9 : decode cX2_givenBy 9 = .ok (.if_icmp .ge 22, 3) := by decide +kernel
theorem dX2_givenBy_12 : decode cX2_givenBy 12 = .ok (.aload_n 0, 1) := by decide +kernel
theorem dX2_givenBy_13 : decode cX2_givenBy 13 = .ok (.getfield 22, 3) := by decide +kernel
theorem dX2_givenBy_16 : decode cX2_givenBy 16 = .ok (.iload_n 3, 1) := by decide +kernel
theorem dX2_givenBy_17 : decode cX2_givenBy 17 = .ok (.iaload, 1) := by decide +kernel
theorem dX2_givenBy_18 : decode cX2_givenBy 18 = .ok (.iload_n 1, 1) := by decide +kernel
theorem dX2_givenBy_19 : decode cX2_givenBy 19 = .ok (.if_icmp .ne 6, 3) := by decide +kernel
theorem dX2_givenBy_22 : decode cX2_givenBy 22 = .ok (.iinc 2 1, 3) := by decide +kernel
theorem dX2_givenBy_25 : decode cX2_givenBy 25 = .ok (.iinc 3 1, 3) := by decide +kernel
theorem dX2_givenBy_28 : decode cX2_givenBy 28 = .ok (.goto (-24), 3) := by decide +kernel
theorem dX2_givenBy_31 : decode cX2_givenBy 31 = .ok (.iload_n 2, 1) := by decide +kernel
theorem dX2_givenBy_32 : decode cX2_givenBy 32 = .ok (.ireturn, 1) := by decide +kernel
theorem dX2_stuckGivenBy_0 : decode cX2_stuckGivenBy 0 = .ok (.iconst 0, 1) := by decide +kernel
theorem dX2_stuckGivenBy_1 : decode cX2_stuckGivenBy 1 = .ok (.istore_n 2, 1) := by decide +kernel
theorem dX2_stuckGivenBy_2 : decode cX2_stuckGivenBy 2 = .ok (.iconst 0, 1) := by decide +kernel
theorem dX2_stuckGivenBy_3 : decode cX2_stuckGivenBy 3 = .ok (.istore_n 3, 1) := by decide +kernel
theorem dX2_stuckGivenBy_4 : decode cX2_stuckGivenBy 4 = .ok (.iload_n 3, 1) := by decide +kernel
theorem dX2_stuckGivenBy_5 : decode cX2_stuckGivenBy 5 = .ok (.aload_n 0, 1) := by decide +kernel
theorem dX2_stuckGivenBy_6 : decode cX2_stuckGivenBy 6 = .ok (.getfield 9, 3) := by decide +kernel
theorem dX2_stuckGivenBy_9 : decode cX2_stuckGivenBy 9 = .ok (.if_icmp .ge 31, 3) := by decide +kernel
theorem dX2_stuckGivenBy_12 : decode cX2_stuckGivenBy 12 = .ok (.aload_n 0, 1) := by decide +kernel
theorem dX2_stuckGivenBy_13 : decode cX2_stuckGivenBy 13 = .ok (.getfield 22, 3) := by decide +kernel
theorem dX2_stuckGivenBy_16 : decode cX2_stuckGivenBy 16 = .ok (.iload_n 3, 1) := by decide +kernel
theorem dX2_stuckGivenBy_17 : decode cX2_stuckGivenBy 17 = .ok (.iaload, 1) := by decide +kernel
theorem dX2_stuckGivenBy_18 : decode cX2_stuckGivenBy 18 = .ok (.iload_n 1, 1) := by decide +kernel
theorem dX2_stuckGivenBy_19 : decode cX2_stuckGivenBy 19 = .ok (.if_icmp .ne 15, 3) := by decide +kernel
theorem dX2_stuckGivenBy_22 : decode cX2_stuckGivenBy 22 = .ok (.aload_n 0, 1) := by decide +kernel
theorem dX2_stuckGivenBy_23 : decode cX2_stuckGivenBy 23 = .ok (.getfield 37, 3) := by decide +kernel
theorem dX2_stuckGivenBy_26 : decode cX2_stuckGivenBy 26 = .ok (.iload_n 3, 1) := by decide +kernel
theorem dX2_stuckGivenBy_27 : decode cX2_stuckGivenBy 27 = .ok (.baload, 1) := by decide +kernel
theorem dX2_stuckGivenBy_28 : decode cX2_stuckGivenBy 28 = .ok (.ifCond .eq 6, 3) := by decide +kernel
theorem dX2_stuckGivenBy_31 : decode cX2_stuckGivenBy 31 = .ok (.iinc 2 1, 3) := by decide +kernel
theorem dX2_stuckGivenBy_34 : decode cX2_stuckGivenBy 34 = .ok (.iinc 3 1, 3) := by decide +kernel
theorem dX2_stuckGivenBy_37 : decode cX2_stuckGivenBy 37 = .ok (.goto (-33), 3) := by decide +kernel
theorem dX2_stuckGivenBy_40 : decode cX2_stuckGivenBy 40 = .ok (.iload_n 2, 1) := by decide +kernel
theorem dX2_stuckGivenBy_41 : decode cX2_stuckGivenBy 41 = .ok (.ireturn, 1) := by decide +kernel
theorem dX2_sticksBetter_0 : decode cX2_sticksBetter 0 = .ok (.aload_n 0, 1) := by decide +kernel
theorem dX2_sticksBetter_1 : decode cX2_sticksBetter 1 = .ok (.iload_n 1, 1) := by decide +kernel
theorem dX2_sticksBetter_2 : decode cX2_sticksBetter 2 = .ok (.invokevirtual 59, 3) := by decide +kernel
theorem dX2_sticksBetter_5 : decode cX2_sticksBetter 5 = .ok (.aload_n 0, 1) := by decide +kernel
theorem dX2_sticksBetter_6 : decode cX2_sticksBetter 6 = .ok (.iload_n 2, 1) := by decide +kernel
theorem dX2_sticksBetter_7 : decode cX2_sticksBetter 7 = .ok (.invokevirtual 62, 3) := by decide +kernel
theorem dX2_sticksBetter_10 : decode cX2_sticksBetter 10 = .ok (.imul, 1) := by decide +kernel
theorem dX2_sticksBetter_11 : decode cX2_sticksBetter 11 = .ok (.istore_n 3, 1) := by decide +kernel
theorem dX2_sticksBetter_12 : decode cX2_sticksBetter 12 = .ok (.aload_n 0, 1) := by decide +kernel
theorem dX2_sticksBetter_13 : decode cX2_sticksBetter 13 = .ok (.iload_n 2, 1) := by decide +kernel
theorem dX2_sticksBetter_14 : decode cX2_sticksBetter 14 = .ok (.invokevirtual 59, 3) := by decide +kernel
theorem dX2_sticksBetter_17 : decode cX2_sticksBetter 17 = .ok (.aload_n 0, 1) := by decide +kernel
theorem dX2_sticksBetter_18 : decode cX2_sticksBetter 18 = .ok (.iload_n 1, 1) := by decide +kernel
theorem dX2_sticksBetter_19 : decode cX2_sticksBetter 19 = .ok (.invokevirtual 62, 3) := by decide +kernel
theorem dX2_sticksBetter_22 : decode cX2_sticksBetter 22 = .ok (.imul, 1) := by decide +kernel
theorem dX2_sticksBetter_23 : decode cX2_sticksBetter 23 = .ok (.istore 4, 2) := by decide +kernel
theorem dX2_sticksBetter_25 : decode cX2_sticksBetter 25 = .ok (.iload_n 3, 1) := by decide +kernel
theorem dX2_sticksBetter_26 : decode cX2_sticksBetter 26 = .ok (.iload 4, 2) := by decide +kernel
theorem dX2_sticksBetter_28 : decode cX2_sticksBetter 28 = .ok (.if_icmp .gt 22, 3) := by decide +kernel
theorem dX2_sticksBetter_31 : decode cX2_sticksBetter 31 = .ok (.iload_n 3, 1) := by decide +kernel
theorem dX2_sticksBetter_32 : decode cX2_sticksBetter 32 = .ok (.iload 4, 2) := by decide +kernel
theorem dX2_sticksBetter_34 : decode cX2_sticksBetter 34 = .ok (.if_icmp .ne 20, 3) := by decide +kernel
theorem dX2_sticksBetter_37 : decode cX2_sticksBetter 37 = .ok (.aload_n 0, 1) := by decide +kernel
theorem dX2_sticksBetter_38 : decode cX2_sticksBetter 38 = .ok (.iload_n 1, 1) := by decide +kernel
theorem dX2_sticksBetter_39 : decode cX2_sticksBetter 39 = .ok (.invokevirtual 62, 3) := by decide +kernel
theorem dX2_sticksBetter_42 : decode cX2_sticksBetter 42 = .ok (.aload_n 0, 1) := by decide +kernel
theorem dX2_sticksBetter_43 : decode cX2_sticksBetter 43 = .ok (.iload_n 2, 1) := by decide +kernel
theorem dX2_sticksBetter_44 : decode cX2_sticksBetter 44 = .ok (.invokevirtual 62, 3) := by decide +kernel
theorem dX2_sticksBetter_47 : decode cX2_sticksBetter 47 = .ok (.if_icmp .le 7, 3) := by decide +kernel
theorem dX2_sticksBetter_50 : decode cX2_sticksBetter 50 = .ok (.iconst 1, 1) := by decide +kernel
theorem dX2_sticksBetter_51 : decode cX2_sticksBetter 51 = .ok (.goto 4, 3) := by decide +kernel
theorem dX2_sticksBetter_54 : decode cX2_sticksBetter 54 = .ok (.iconst 0, 1) := by decide +kernel
theorem dX2_sticksBetter_55 : decode cX2_sticksBetter 55 = .ok (.ireturn, 1) := by decide +kernel
theorem dX2_ranked_0 : decode cX2_ranked 0 = .ok (.iconst 0, 1) := by decide +kernel
theorem dX2_ranked_1 : decode cX2_ranked 1 = .ok (.istore_n 2, 1) := by decide +kernel
theorem dX2_ranked_2 : decode cX2_ranked 2 = .ok (.iload_n 2, 1) := by decide +kernel
theorem dX2_ranked_3 : decode cX2_ranked 3 = .ok (.aload_n 0, 1) := by decide +kernel
theorem dX2_ranked_4 : decode cX2_ranked 4 = .ok (.getfield 9, 3) := by decide +kernel
theorem dX2_ranked_7 : decode cX2_ranked 7 = .ok (.if_icmp .ge 28, 3) := by decide +kernel
theorem dX2_ranked_10 : decode cX2_ranked 10 = .ok (.aload_n 0, 1) := by decide +kernel
theorem dX2_ranked_11 : decode cX2_ranked 11 = .ok (.iload_n 2, 1) := by decide +kernel
theorem dX2_ranked_12 : decode cX2_ranked 12 = .ok (.invokevirtual 65, 3) := by decide +kernel
theorem dX2_ranked_15 : decode cX2_ranked 15 = .ok (.ifCond .eq 14, 3) := by decide +kernel
theorem dX2_ranked_18 : decode cX2_ranked 18 = .ok (.aload_n 0, 1) := by decide +kernel
theorem dX2_ranked_19 : decode cX2_ranked 19 = .ok (.iload_n 2, 1) := by decide +kernel
theorem dX2_ranked_20 : decode cX2_ranked 20 = .ok (.invokevirtual 69, 3) := by decide +kernel
theorem dX2_ranked_23 : decode cX2_ranked 23 = .ok (.iload_n 1, 1) := by decide +kernel
theorem dX2_ranked_24 : decode cX2_ranked 24 = .ok (.if_icmp .ne 5, 3) := by decide +kernel
theorem dX2_ranked_27 : decode cX2_ranked 27 = .ok (.iload_n 2, 1) := by decide +kernel
theorem dX2_ranked_28 : decode cX2_ranked 28 = .ok (.ireturn, 1) := by decide +kernel
theorem dX2_ranked_29 : decode cX2_ranked 29 = .ok (.iinc 2 1, 3) := by decide +kernel
theorem dX2_ranked_32 : decode cX2_ranked 32 = .ok (.goto (-30), 3) := by decide +kernel
theorem dX2_ranked_35 : decode cX2_ranked 35 = .ok (.iconst (-1), 1) := by decide +kernel
theorem dX2_ranked_36 : decode cX2_ranked 36 = .ok (.ireturn, 1) := by decide +kernel
theorem dX2_aliveAheadOf_0 : decode cX2_aliveAheadOf 0 = .ok (.aload_n 0, 1) := by decide +kernel
theorem dX2_aliveAheadOf_1 : decode cX2_aliveAheadOf 1 = .ok (.getfield 15, 3) := by decide +kernel
theorem dX2_aliveAheadOf_4 : decode cX2_aliveAheadOf 4 = .ok (.iload_n 1, 1) := by decide +kernel
theorem dX2_aliveAheadOf_5 : decode cX2_aliveAheadOf 5 = .ok (.iaload, 1) := by decide +kernel
theorem dX2_aliveAheadOf_6 : decode cX2_aliveAheadOf 6 = .ok (.aload_n 0, 1) := by decide +kernel
theorem dX2_aliveAheadOf_7 : decode cX2_aliveAheadOf 7 = .ok (.getfield 19, 3) := by decide +kernel
theorem dX2_aliveAheadOf_10 : decode cX2_aliveAheadOf 10 = .ok (.iload_n 1, 1) := by decide +kernel
theorem dX2_aliveAheadOf_11 : decode cX2_aliveAheadOf 11 = .ok (.iaload, 1) := by decide +kernel
theorem dX2_aliveAheadOf_12 : decode cX2_aliveAheadOf 12 = .ok (.invokestatic 72, 3) := by decide +kernel
theorem dX2_aliveAheadOf_15 : decode cX2_aliveAheadOf 15 = .ok (.istore_n 2, 1) := by decide +kernel
theorem dX2_aliveAheadOf_16 : decode cX2_aliveAheadOf 16 = .ok (.iconst 0, 1) := by decide +kernel
theorem dX2_aliveAheadOf_17 : decode cX2_aliveAheadOf 17 = .ok (.istore_n 3, 1) := by decide +kernel
theorem dX2_aliveAheadOf_18 : decode cX2_aliveAheadOf 18 = .ok (.iconst 0, 1) := by decide +kernel
theorem dX2_aliveAheadOf_19 : decode cX2_aliveAheadOf 19 = .ok (.istore 4, 2) := by decide +kernel
theorem dX2_aliveAheadOf_21 : decode cX2_aliveAheadOf 21 = .ok (.iload 4, 2) := by decide +kernel
theorem dX2_aliveAheadOf_23 : decode cX2_aliveAheadOf 23 = .ok (.aload_n 0, 1) := by decide +kernel
theorem dX2_aliveAheadOf_24 : decode cX2_aliveAheadOf 24 = .ok (.getfield 9, 3) := by decide +kernel
theorem dX2_aliveAheadOf_27 : decode cX2_aliveAheadOf 27 = .ok (.if_icmp .ge 58, 3) := by decide +kernel
theorem dX2_aliveAheadOf_30 : decode cX2_aliveAheadOf 30 = .ok (.aload_n 0, 1) := by decide +kernel
theorem dX2_aliveAheadOf_31 : decode cX2_aliveAheadOf 31 = .ok (.iload 4, 2) := by decide +kernel
theorem dX2_aliveAheadOf_33 : decode cX2_aliveAheadOf 33 = .ok (.invokevirtual 65, 3) := by decide +kernel
theorem dX2_aliveAheadOf_36 : decode cX2_aliveAheadOf 36 = .ok (.ifCond .eq 43, 3) := by decide +kernel
theorem dX2_aliveAheadOf_39 : decode cX2_aliveAheadOf 39 = .ok (.aload_n 0, 1) := by decide +kernel
theorem dX2_aliveAheadOf_40 : decode cX2_aliveAheadOf 40 = .ok (.getfield 15, 3) := by decide +kernel
theorem dX2_aliveAheadOf_43 : decode cX2_aliveAheadOf 43 = .ok (.iload 4, 2) := by decide +kernel
theorem dX2_aliveAheadOf_45 : decode cX2_aliveAheadOf 45 = .ok (.iaload, 1) := by decide +kernel
theorem dX2_aliveAheadOf_46 : decode cX2_aliveAheadOf 46 = .ok (.aload_n 0, 1) := by decide +kernel
theorem dX2_aliveAheadOf_47 : decode cX2_aliveAheadOf 47 = .ok (.getfield 19, 3) := by decide +kernel
theorem dX2_aliveAheadOf_50 : decode cX2_aliveAheadOf 50 = .ok (.iload 4, 2) := by decide +kernel
theorem dX2_aliveAheadOf_52 : decode cX2_aliveAheadOf 52 = .ok (.iaload, 1) := by decide +kernel
theorem dX2_aliveAheadOf_53 : decode cX2_aliveAheadOf 53 = .ok (.invokestatic 72, 3) := by decide +kernel
theorem dX2_aliveAheadOf_56 : decode cX2_aliveAheadOf 56 = .ok (.istore 5, 2) := by decide +kernel
theorem dX2_aliveAheadOf_58 : decode cX2_aliveAheadOf 58 = .ok (.iload 5, 2) := by decide +kernel
theorem dX2_aliveAheadOf_60 : decode cX2_aliveAheadOf 60 = .ok (.iload_n 2, 1) := by decide +kernel
theorem dX2_aliveAheadOf_61 : decode cX2_aliveAheadOf 61 = .ok (.if_icmp .lt 15, 3) := by decide +kernel
theorem dX2_aliveAheadOf_64 : decode cX2_aliveAheadOf 64 = .ok (.iload 5, 2) := by decide +kernel
theorem dX2_aliveAheadOf_66 : decode cX2_aliveAheadOf 66 = .ok (.iload_n 2, 1) := by decide +kernel
theorem dX2_aliveAheadOf_67 : decode cX2_aliveAheadOf 67 = .ok (.if_icmp .ne 12, 3) := by decide +kernel
theorem dX2_aliveAheadOf_70 : decode cX2_aliveAheadOf 70 = .ok (.iload 4, 2) := by decide +kernel
theorem dX2_aliveAheadOf_72 : decode cX2_aliveAheadOf 72 = .ok (.iload_n 1, 1) := by decide +kernel
theorem dX2_aliveAheadOf_73 : decode cX2_aliveAheadOf 73 = .ok (.if_icmp .ge 6, 3) := by decide +kernel
theorem dX2_aliveAheadOf_76 : decode cX2_aliveAheadOf 76 = .ok (.iinc 3 1, 3) := by decide +kernel
theorem dX2_aliveAheadOf_79 : decode cX2_aliveAheadOf 79 = .ok (.iinc 4 1, 3) := by decide +kernel
theorem dX2_aliveAheadOf_82 : decode cX2_aliveAheadOf 82 = .ok (.goto (-61), 3) := by decide +kernel
theorem dX2_aliveAheadOf_85 : decode cX2_aliveAheadOf 85 = .ok (.iload_n 3, 1) := by decide +kernel
theorem dX2_aliveAheadOf_86 : decode cX2_aliveAheadOf 86 = .ok (.ireturn, 1) := by decide +kernel
theorem dX3_init_0 : decode cX3_init 0 = .ok (.aload_n 0, 1) := by decide +kernel
theorem dX3_init_1 : decode cX3_init 1 = .ok (.invokespecial 3, 3) := by decide +kernel
theorem dX3_init_4 : decode cX3_init 4 = .ok (.aload_n 0, 1) := by decide +kernel
theorem dX3_init_5 : decode cX3_init 5 = .ok (.bipush 14, 2) := by decide +kernel
theorem dX3_init_7 : decode cX3_init 7 = .ok (.anewarray 9, 3) := by decide +kernel
theorem dX3_init_10 : decode cX3_init 10 = .ok (.putfield 11, 3) := by decide +kernel
theorem dX3_init_13 : decode cX3_init 13 = .ok (.aload_n 0, 1) := by decide +kernel
theorem dX3_init_14 : decode cX3_init 14 = .ok (.iconst 0, 1) := by decide +kernel
theorem dX3_init_15 : decode cX3_init 15 = .ok (.putfield 17, 3) := by decide +kernel
theorem dX3_init_18 : decode cX3_init 18 = .ok (.aload_n 0, 1) := by decide +kernel
theorem dX3_init_19 : decode cX3_init 19 = .ok (.iconst 0, 1) := by decide +kernel
theorem dX3_init_20 : decode cX3_init 20 = .ok (.putfield 21, 3) := by decide +kernel
theorem dX3_init_23 : decode cX3_init 23 = .ok (.iconst 0, 1) := by decide +kernel
theorem dX3_init_24 : decode cX3_init 24 = .ok (.istore_n 1, 1) := by decide +kernel
theorem dX3_init_25 : decode cX3_init 25 = .ok (.iload_n 1, 1) := by decide +kernel
theorem dX3_init_26 : decode cX3_init 26 = .ok (.bipush 14, 2) := by decide +kernel
theorem dX3_init_28 : decode cX3_init 28 = .ok (.if_icmp .ge 22, 3) := by decide +kernel
theorem dX3_init_31 : decode cX3_init 31 = .ok (.aload_n 0, 1) := by decide +kernel
theorem dX3_init_32 : decode cX3_init 32 = .ok (.getfield 11, 3) := by decide +kernel
theorem dX3_init_35 : decode cX3_init 35 = .ok (.iload_n 1, 1) := by decide +kernel
theorem dX3_init_36 : decode cX3_init 36 = .ok (.new 9, 3) := by decide +kernel
theorem dX3_init_39 : decode cX3_init 39 = .ok (.dup, 1) := by decide +kernel
theorem dX3_init_40 : decode cX3_init 40 = .ok (.invokespecial 24, 3) := by decide +kernel
theorem dX3_init_43 : decode cX3_init 43 = .ok (.aastore, 1) := by decide +kernel
theorem dX3_init_44 : decode cX3_init 44 = .ok (.iinc 1 1, 3) := by decide +kernel
theorem dX3_init_47 : decode cX3_init 47 = .ok (.goto (-22), 3) := by decide +kernel
theorem dX3_init_50 : decode cX3_init 50 = .ok (.return_, 1) := by decide +kernel
theorem dX3_forgetAll_0 : decode cX3_forgetAll 0 = .ok (.aload_n 0, 1) := by decide +kernel
theorem dX3_forgetAll_1 : decode cX3_forgetAll 1 = .ok (.iconst 0, 1) := by decide +kernel
theorem dX3_forgetAll_2 : decode cX3_forgetAll 2 = .ok (.putfield 21, 3) := by decide +kernel
theorem dX3_forgetAll_5 : decode cX3_forgetAll 5 = .ok (.return_, 1) := by decide +kernel
theorem dX3_remember_0 : decode cX3_remember 0 = .ok (.aload_n 0, 1) := by decide +kernel
theorem dX3_remember_1 : decode cX3_remember 1 = .ok (.getfield 11, 3) := by decide +kernel
theorem dX3_remember_4 : decode cX3_remember 4 = .ok (.aload_n 0, 1) := by decide +kernel
theorem dX3_remember_5 : decode cX3_remember 5 = .ok (.getfield 17, 3) := by decide +kernel
theorem dX3_remember_8 : decode cX3_remember 8 = .ok (.aload_n 0, 1) := by decide +kernel
theorem dX3_remember_9 : decode cX3_remember 9 = .ok (.getfield 21, 3) := by decide +kernel
theorem dX3_remember_12 : decode cX3_remember 12 = .ok (.iadd, 1) := by decide +kernel
theorem dX3_remember_13 : decode cX3_remember 13 = .ok (.bipush 14, 2) := by decide +kernel
theorem dX3_remember_15 : decode cX3_remember 15 = .ok (.irem, 1) := by decide +kernel
theorem dX3_remember_16 : decode cX3_remember 16 = .ok (.aaload, 1) := by decide +kernel
theorem dX3_remember_17 : decode cX3_remember 17 = .ok (.aload_n 1, 1) := by decide +kernel
theorem dX3_remember_18 : decode cX3_remember 18 = .ok (.invokevirtual 25, 3) := by decide +kernel
theorem dX3_remember_21 : decode cX3_remember 21 = .ok (.aload_n 0, 1) := by decide +kernel
theorem dX3_remember_22 : decode cX3_remember 22 = .ok (.getfield 21, 3) := by decide +kernel
theorem dX3_remember_25 : decode cX3_remember 25 = .ok (.bipush 14, 2) := by decide +kernel
theorem dX3_remember_27 : decode cX3_remember 27 = .ok (.if_icmp .ge 16, 3) := by decide +kernel
theorem dX3_remember_30 : decode cX3_remember 30 = .ok (.aload_n 0, 1) := by decide +kernel
theorem dX3_remember_31 : decode cX3_remember 31 = .ok (.dup, 1) := by decide +kernel
theorem dX3_remember_32 : decode cX3_remember 32 = .ok (.getfield 21, 3) := by decide +kernel
theorem dX3_remember_35 : decode cX3_remember 35 = .ok (.iconst 1, 1) := by decide +kernel
theorem dX3_remember_36 : decode cX3_remember 36 = .ok (.iadd, 1) := by decide +kernel
theorem dX3_remember_37 : decode cX3_remember 37 = .ok (.putfield 21, 3) := by decide +kernel
theorem dX3_remember_40 : decode cX3_remember 40 = .ok (.goto 16, 3) := by decide +kernel
theorem dX3_remember_43 : decode cX3_remember 43 = .ok (.aload_n 0, 1) := by decide +kernel
theorem dX3_remember_44 : decode cX3_remember 44 = .ok (.aload_n 0, 1) := by decide +kernel
theorem dX3_remember_45 : decode cX3_remember 45 = .ok (.getfield 17, 3) := by decide +kernel
theorem dX3_remember_48 : decode cX3_remember 48 = .ok (.iconst 1, 1) := by decide +kernel
theorem dX3_remember_49 : decode cX3_remember 49 = .ok (.iadd, 1) := by decide +kernel
theorem dX3_remember_50 : decode cX3_remember 50 = .ok (.bipush 14, 2) := by decide +kernel
theorem dX3_remember_52 : decode cX3_remember 52 = .ok (.irem, 1) := by decide +kernel
theorem dX3_remember_53 : decode cX3_remember 53 = .ok (.putfield 17, 3) := by decide +kernel
theorem dX3_remember_56 : decode cX3_remember 56 = .ok (.return_, 1) := by decide +kernel
theorem dX3_takeBack_0 : decode cX3_takeBack 0 = .ok (.aload_n 0, 1) := by decide +kernel
theorem dX3_takeBack_1 : decode cX3_takeBack 1 = .ok (.getfield 21, 3) := by decide +kernel
theorem dX3_takeBack_4 : decode cX3_takeBack 4 = .ok (.ifCond .le 34, 3) := by decide +kernel
theorem dX3_takeBack_7 : decode cX3_takeBack 7 = .ok (.aload_n 0, 1) := by decide +kernel
theorem dX3_takeBack_8 : decode cX3_takeBack 8 = .ok (.dup, 1) := by decide +kernel
theorem dX3_takeBack_9 : decode cX3_takeBack 9 = .ok (.getfield 21, 3) := by decide +kernel
theorem dX3_takeBack_12 : decode cX3_takeBack 12 = .ok (.iconst 1, 1) := by decide +kernel
theorem dX3_takeBack_13 : decode cX3_takeBack 13 = .ok (.isub, 1) := by decide +kernel
theorem dX3_takeBack_14 : decode cX3_takeBack 14 = .ok (.putfield 21, 3) := by decide +kernel
theorem dX3_takeBack_17 : decode cX3_takeBack 17 = .ok (.aload_n 1, 1) := by decide +kernel
theorem dX3_takeBack_18 : decode cX3_takeBack 18 = .ok (.aload_n 0, 1) := by decide +kernel
theorem dX3_takeBack_19 : decode cX3_takeBack 19 = .ok (.getfield 11, 3) := by decide +kernel
theorem dX3_takeBack_22 : decode cX3_takeBack 22 = .ok (.aload_n 0, 1) := by decide +kernel
theorem dX3_takeBack_23 : decode cX3_takeBack 23 = .ok (.getfield 17, 3) := by decide +kernel
theorem dX3_takeBack_26 : decode cX3_takeBack 26 = .ok (.aload_n 0, 1) := by decide +kernel
theorem dX3_takeBack_27 : decode cX3_takeBack 27 = .ok (.getfield 21, 3) := by decide +kernel
theorem dX3_takeBack_30 : decode cX3_takeBack 30 = .ok (.iadd, 1) := by decide +kernel
theorem dX3_takeBack_31 : decode cX3_takeBack 31 = .ok (.bipush 14, 2) := by decide +kernel
theorem dX3_takeBack_33 : decode cX3_takeBack 33 = .ok (.irem, 1) := by decide +kernel
theorem dX3_takeBack_34 : decode cX3_takeBack 34 = .ok (.aaload, 1) := by decide +kernel
theorem dX3_takeBack_35 : decode cX3_takeBack 35 = .ok (.invokevirtual 25, 3) := by decide +kernel
theorem dX3_takeBack_38 : decode cX3_takeBack 38 = .ok (.return_, 1) := by decide +kernel
theorem dX4_init_0 : decode cX4_init 0 = .ok (.aload_n 0, 1) := by decide +kernel
theorem dX4_init_1 : decode cX4_init 1 = .ok (.invokespecial 3, 3) := by decide +kernel
theorem dX4_init_4 : decode cX4_init 4 = .ok (.aload_n 0, 1) := by decide +kernel
theorem dX4_init_5 : decode cX4_init 5 = .ok (.iconst 0, 1) := by decide +kernel
theorem dX4_init_6 : decode cX4_init 6 = .ok (.putfield 9, 3) := by decide +kernel
theorem dX4_init_9 : decode cX4_init 9 = .ok (.aload_n 0, 1) := by decide +kernel
theorem dX4_init_10 : decode cX4_init 10 = .ok (.bipush 12, 2) := by decide +kernel
theorem dX4_init_12 : decode cX4_init 12 = .ok (.newarray .int, 2) := by decide +kernel
theorem dX4_init_14 : decode cX4_init 14 = .ok (.putfield 15, 3) := by decide +kernel
theorem dX4_init_17 : decode cX4_init 17 = .ok (.aload_n 0, 1) := by decide +kernel
theorem dX4_init_18 : decode cX4_init 18 = .ok (.bipush 12, 2) := by decide +kernel
theorem dX4_init_20 : decode cX4_init 20 = .ok (.newarray .int, 2) := by decide +kernel
theorem dX4_init_22 : decode cX4_init 22 = .ok (.putfield 19, 3) := by decide +kernel
theorem dX4_init_25 : decode cX4_init 25 = .ok (.aload_n 0, 1) := by decide +kernel
theorem dX4_init_26 : decode cX4_init 26 = .ok (.bipush 12, 2) := by decide +kernel
theorem dX4_init_28 : decode cX4_init 28 = .ok (.newarray .int, 2) := by decide +kernel
theorem dX4_init_30 : decode cX4_init 30 = .ok (.putfield 22, 3) := by decide +kernel
theorem dX4_init_33 : decode cX4_init 33 = .ok (.aload_n 0, 1) := by decide +kernel
theorem dX4_init_34 : decode cX4_init 34 = .ok (.bipush 12, 2) := by decide +kernel
theorem dX4_init_36 : decode cX4_init 36 = .ok (.newarray .int, 2) := by decide +kernel
theorem dX4_init_38 : decode cX4_init 38 = .ok (.putfield 25, 3) := by decide +kernel
theorem dX4_init_41 : decode cX4_init 41 = .ok (.aload_n 0, 1) := by decide +kernel
theorem dX4_init_42 : decode cX4_init 42 = .ok (.bipush 12, 2) := by decide +kernel
theorem dX4_init_44 : decode cX4_init 44 = .ok (.newarray .int, 2) := by decide +kernel
theorem dX4_init_46 : decode cX4_init 46 = .ok (.putfield 28, 3) := by decide +kernel
theorem dX4_init_49 : decode cX4_init 49 = .ok (.return_, 1) := by decide +kernel
theorem dX4_copyFrom_0 : decode cX4_copyFrom 0 = .ok (.aload_n 0, 1) := by decide +kernel
theorem dX4_copyFrom_1 : decode cX4_copyFrom 1 = .ok (.aload_n 1, 1) := by decide +kernel
theorem dX4_copyFrom_2 : decode cX4_copyFrom 2 = .ok (.getfield 9, 3) := by decide +kernel
theorem dX4_copyFrom_5 : decode cX4_copyFrom 5 = .ok (.putfield 9, 3) := by decide +kernel
theorem dX4_copyFrom_8 : decode cX4_copyFrom 8 = .ok (.aload_n 1, 1) := by decide +kernel
theorem dX4_copyFrom_9 : decode cX4_copyFrom 9 = .ok (.getfield 15, 3) := by decide +kernel
theorem dX4_copyFrom_12 : decode cX4_copyFrom 12 = .ok (.iconst 0, 1) := by decide +kernel
theorem dX4_copyFrom_13 : decode cX4_copyFrom 13 = .ok (.aload_n 0, 1) := by decide +kernel
theorem dX4_copyFrom_14 : decode cX4_copyFrom 14 = .ok (.getfield 15, 3) := by decide +kernel
theorem dX4_copyFrom_17 : decode cX4_copyFrom 17 = .ok (.iconst 0, 1) := by decide +kernel
theorem dX4_copyFrom_18 : decode cX4_copyFrom 18 = .ok (.bipush 12, 2) := by decide +kernel
theorem dX4_copyFrom_20 : decode cX4_copyFrom 20 = .ok (.invokestatic 31, 3) := by decide +kernel
theorem dX4_copyFrom_23 : decode cX4_copyFrom 23 = .ok (.aload_n 1, 1) := by decide +kernel
theorem dX4_copyFrom_24 : decode cX4_copyFrom 24 = .ok (.getfield 19, 3) := by decide +kernel
theorem dX4_copyFrom_27 : decode cX4_copyFrom 27 = .ok (.iconst 0, 1) := by decide +kernel
theorem dX4_copyFrom_28 : decode cX4_copyFrom 28 = .ok (.aload_n 0, 1) := by decide +kernel
theorem dX4_copyFrom_29 : decode cX4_copyFrom 29 = .ok (.getfield 19, 3) := by decide +kernel
theorem dX4_copyFrom_32 : decode cX4_copyFrom 32 = .ok (.iconst 0, 1) := by decide +kernel
theorem dX4_copyFrom_33 : decode cX4_copyFrom 33 = .ok (.bipush 12, 2) := by decide +kernel
theorem dX4_copyFrom_35 : decode cX4_copyFrom 35 = .ok (.invokestatic 31, 3) := by decide +kernel
theorem dX4_copyFrom_38 : decode cX4_copyFrom 38 = .ok (.aload_n 1, 1) := by decide +kernel
theorem dX4_copyFrom_39 : decode cX4_copyFrom 39 = .ok (.getfield 22, 3) := by decide +kernel
theorem dX4_copyFrom_42 : decode cX4_copyFrom 42 = .ok (.iconst 0, 1) := by decide +kernel
theorem dX4_copyFrom_43 : decode cX4_copyFrom 43 = .ok (.aload_n 0, 1) := by decide +kernel
theorem dX4_copyFrom_44 : decode cX4_copyFrom 44 = .ok (.getfield 22, 3) := by decide +kernel
theorem dX4_copyFrom_47 : decode cX4_copyFrom 47 = .ok (.iconst 0, 1) := by decide +kernel
theorem dX4_copyFrom_48 : decode cX4_copyFrom 48 = .ok (.bipush 12, 2) := by decide +kernel
theorem dX4_copyFrom_50 : decode cX4_copyFrom 50 = .ok (.invokestatic 31, 3) := by decide +kernel
theorem dX4_copyFrom_53 : decode cX4_copyFrom 53 = .ok (.aload_n 1, 1) := by decide +kernel
theorem dX4_copyFrom_54 : decode cX4_copyFrom 54 = .ok (.getfield 25, 3) := by decide +kernel
theorem dX4_copyFrom_57 : decode cX4_copyFrom 57 = .ok (.iconst 0, 1) := by decide +kernel
theorem dX4_copyFrom_58 : decode cX4_copyFrom 58 = .ok (.aload_n 0, 1) := by decide +kernel
theorem dX4_copyFrom_59 : decode cX4_copyFrom 59 = .ok (.getfield 25, 3) := by decide +kernel
theorem dX4_copyFrom_62 : decode cX4_copyFrom 62 = .ok (.iconst 0, 1) := by decide +kernel
theorem dX4_copyFrom_63 : decode cX4_copyFrom 63 = .ok (.bipush 12, 2) := by decide +kernel
theorem dX4_copyFrom_65 : decode cX4_copyFrom 65 = .ok (.invokestatic 31, 3) := by decide +kernel
theorem dX4_copyFrom_68 : decode cX4_copyFrom 68 = .ok (.aload_n 1, 1) := by decide +kernel
theorem dX4_copyFrom_69 : decode cX4_copyFrom 69 = .ok (.getfield 28, 3) := by decide +kernel
theorem dX4_copyFrom_72 : decode cX4_copyFrom 72 = .ok (.iconst 0, 1) := by decide +kernel
theorem dX4_copyFrom_73 : decode cX4_copyFrom 73 = .ok (.aload_n 0, 1) := by decide +kernel
theorem dX4_copyFrom_74 : decode cX4_copyFrom 74 = .ok (.getfield 28, 3) := by decide +kernel
theorem dX4_copyFrom_77 : decode cX4_copyFrom 77 = .ok (.iconst 0, 1) := by decide +kernel
theorem dX4_copyFrom_78 : decode cX4_copyFrom 78 = .ok (.bipush 12, 2) := by decide +kernel
theorem dX4_copyFrom_80 : decode cX4_copyFrom 80 = .ok (.invokestatic 31, 3) := by decide +kernel
theorem dX4_copyFrom_83 : decode cX4_copyFrom 83 = .ok (.return_, 1) := by decide +kernel
theorem dX4_has_0 : decode cX4_has 0 = .ok (.iload_n 1, 1) := by decide +kernel
theorem dX4_has_1 : decode cX4_has 1 = .ok (.ifCond .lt 15, 3) := by decide +kernel
theorem dX4_has_4 : decode cX4_has 4 = .ok (.iload_n 1, 1) := by decide +kernel
theorem dX4_has_5 : decode cX4_has 5 = .ok (.aload_n 0, 1) := by decide +kernel
theorem dX4_has_6 : decode cX4_has 6 = .ok (.getfield 9, 3) := by decide +kernel
theorem dX4_has_9 : decode cX4_has 9 = .ok (.if_icmp .ge 7, 3) := by decide +kernel
theorem dX4_has_12 : decode cX4_has 12 = .ok (.iconst 1, 1) := by decide +kernel
theorem dX4_has_13 : decode cX4_has 13 = .ok (.goto 4, 3) := by decide +kernel
theorem dX4_has_16 : decode cX4_has 16 = .ok (.iconst 0, 1) := by decide +kernel
theorem dX4_has_17 : decode cX4_has 17 = .ok (.ireturn, 1) := by decide +kernel
theorem dX4_isFull_0 : decode cX4_isFull 0 = .ok (.aload_n 0, 1) := by decide +kernel
theorem dX4_isFull_1 : decode cX4_isFull 1 = .ok (.getfield 9, 3) := by decide +kernel
theorem dX4_isFull_4 : decode cX4_isFull 4 = .ok (.bipush 12, 2) := by decide +kernel
theorem dX4_isFull_6 : decode cX4_isFull 6 = .ok (.if_icmp .lt 7, 3) := by decide +kernel
theorem dX4_isFull_9 : decode cX4_isFull 9 = .ok (.iconst 1, 1) := by decide +kernel
theorem dX4_isFull_10 : decode cX4_isFull 10 = .ok (.goto 4, 3) := by decide +kernel
theorem dX4_isFull_13 : decode cX4_isFull 13 = .ok (.iconst 0, 1) := by decide +kernel
theorem dX4_isFull_14 : decode cX4_isFull 14 = .ok (.ireturn, 1) := by decide +kernel
theorem dX4_add_0 : decode cX4_add 0 = .ok (.aload_n 0, 1) := by decide +kernel
theorem dX4_add_1 : decode cX4_add 1 = .ok (.invokevirtual 37, 3) := by decide +kernel
theorem dX4_add_4 : decode cX4_add 4 = .ok (.ifCond .eq 4, 3) := by decide +kernel
theorem dX4_add_7 : decode cX4_add 7 = .ok (.return_, 1) := by decide +kernel
theorem dX4_add_8 : decode cX4_add 8 = .ok (.aload_n 0, 1) := by decide +kernel
theorem dX4_add_9 : decode cX4_add 9 = .ok (.getfield 15, 3) := by decide +kernel
theorem dX4_add_12 : decode cX4_add 12 = .ok (.aload_n 0, 1) := by decide +kernel
theorem dX4_add_13 : decode cX4_add 13 = .ok (.getfield 9, 3) := by decide +kernel
theorem dX4_add_16 : decode cX4_add 16 = .ok (.iload_n 1, 1) := by decide +kernel
theorem dX4_add_17 : decode cX4_add 17 = .ok (.iastore, 1) := by decide +kernel
theorem dX4_add_18 : decode cX4_add 18 = .ok (.aload_n 0, 1) := by decide +kernel
theorem dX4_add_19 : decode cX4_add 19 = .ok (.getfield 19, 3) := by decide +kernel
theorem dX4_add_22 : decode cX4_add 22 = .ok (.aload_n 0, 1) := by decide +kernel
theorem dX4_add_23 : decode cX4_add 23 = .ok (.getfield 9, 3) := by decide +kernel
theorem dX4_add_26 : decode cX4_add 26 = .ok (.iload_n 2, 1) := by decide +kernel
theorem dX4_add_27 : decode cX4_add 27 = .ok (.iastore, 1) := by decide +kernel
theorem dX4_add_28 : decode cX4_add 28 = .ok (.aload_n 0, 1) := by decide +kernel
theorem dX4_add_29 : decode cX4_add 29 = .ok (.getfield 22, 3) := by decide +kernel
theorem dX4_add_32 : decode cX4_add 32 = .ok (.aload_n 0, 1) := by decide +kernel
theorem dX4_add_33 : decode cX4_add 33 = .ok (.getfield 9, 3) := by decide +kernel
theorem dX4_add_36 : decode cX4_add 36 = .ok (.iload_n 3, 1) := by decide +kernel
theorem dX4_add_37 : decode cX4_add 37 = .ok (.iastore, 1) := by decide +kernel
theorem dX4_add_38 : decode cX4_add 38 = .ok (.aload_n 0, 1) := by decide +kernel
theorem dX4_add_39 : decode cX4_add 39 = .ok (.getfield 25, 3) := by decide +kernel
theorem dX4_add_42 : decode cX4_add 42 = .ok (.aload_n 0, 1) := by decide +kernel
theorem dX4_add_43 : decode cX4_add 43 = .ok (.getfield 9, 3) := by decide +kernel
theorem dX4_add_46 : decode cX4_add 46 = .ok (.iconst 0, 1) := by decide +kernel
theorem dX4_add_47 : decode cX4_add 47 = .ok (.iastore, 1) := by decide +kernel
theorem dX4_add_48 : decode cX4_add 48 = .ok (.aload_n 0, 1) := by decide +kernel
theorem dX4_add_49 : decode cX4_add 49 = .ok (.getfield 28, 3) := by decide +kernel
theorem dX4_add_52 : decode cX4_add 52 = .ok (.aload_n 0, 1) := by decide +kernel
theorem dX4_add_53 : decode cX4_add 53 = .ok (.getfield 9, 3) := by decide +kernel
theorem dX4_add_56 : decode cX4_add 56 = .ok (.iconst 0, 1) := by decide +kernel
theorem dX4_add_57 : decode cX4_add 57 = .ok (.iastore, 1) := by decide +kernel
theorem dX4_add_58 : decode cX4_add 58 = .ok (.aload_n 0, 1) := by decide +kernel
theorem dX4_add_59 : decode cX4_add 59 = .ok (.dup, 1) := by decide +kernel
theorem dX4_add_60 : decode cX4_add 60 = .ok (.getfield 9, 3) := by decide +kernel
theorem dX4_add_63 : decode cX4_add 63 = .ok (.iconst 1, 1) := by decide +kernel
theorem dX4_add_64 : decode cX4_add 64 = .ok (.iadd, 1) := by decide +kernel
theorem dX4_add_65 : decode cX4_add 65 = .ok (.putfield 9, 3) := by decide +kernel
theorem dX4_add_68 : decode cX4_add 68 = .ok (.return_, 1) := by decide +kernel
theorem dX4_growOlder_0 : decode cX4_growOlder 0 = .ok (.iconst 0, 1) := by decide +kernel
theorem dX4_growOlder_1 : decode cX4_growOlder 1 = .ok (.istore_n 1, 1) := by decide +kernel
theorem dX4_growOlder_2 : decode cX4_growOlder 2 = .ok (.iload_n 1, 1) := by decide +kernel
theorem dX4_growOlder_3 : decode cX4_growOlder 3 = .ok (.aload_n 0, 1) := by decide +kernel
theorem dX4_growOlder_4 : decode cX4_growOlder 4 = .ok (.getfield 9, 3) := by decide +kernel
theorem dX4_growOlder_7 : decode cX4_growOlder 7 = .ok (.if_icmp .ge 19, 3) := by decide +kernel
theorem dX4_growOlder_10 : decode cX4_growOlder 10 = .ok (.aload_n 0, 1) := by decide +kernel
theorem dX4_growOlder_11 : decode cX4_growOlder 11 = .ok (.getfield 15, 3) := by decide +kernel
theorem dX4_growOlder_14 : decode cX4_growOlder 14 = .ok (.iload_n 1, 1) := by decide +kernel
theorem dX4_growOlder_15 : decode cX4_growOlder 15 = .ok (.dup2, 1) := by decide +kernel
theorem dX4_growOlder_16 : decode cX4_growOlder 16 = .ok (.iaload, 1) := by decide +kernel
theorem dX4_growOlder_17 : decode cX4_growOlder 17 = .ok (.iconst 1, 1) := by decide +kernel
theorem dX4_growOlder_18 : decode cX4_growOlder 18 = .ok (.iadd, 1) := by decide +kernel
theorem dX4_growOlder_19 : decode cX4_growOlder 19 = .ok (.iastore, 1) := by decide +kernel
theorem dX4_growOlder_20 : decode cX4_growOlder 20 = .ok (.iinc 1 1, 3) := by decide +kernel
theorem dX4_growOlder_23 : decode cX4_growOlder 23 = .ok (.goto (-21), 3) := by decide +kernel
theorem dX4_growOlder_26 : decode cX4_growOlder 26 = .ok (.return_, 1) := by decide +kernel
theorem dX4_areBrothers_0 : decode cX4_areBrothers 0 = .ok (.iload_n 1, 1) := by decide +kernel
theorem dX4_areBrothers_1 : decode cX4_areBrothers 1 = .ok (.iload_n 2, 1) := by decide +kernel
theorem dX4_areBrothers_2 : decode cX4_areBrothers 2 = .ok (.if_icmp .eq 22, 3) := by decide +kernel
theorem dX4_areBrothers_5 : decode cX4_areBrothers 5 = .ok (.aload_n 0, 1) := by decide +kernel
theorem dX4_areBrothers_6 : decode cX4_areBrothers 6 = .ok (.getfield 19, 3) := by decide +kernel
theorem dX4_areBrothers_9 : decode cX4_areBrothers 9 = .ok (.iload_n 1, 1) := by decide +kernel
theorem dX4_areBrothers_10 : decode cX4_areBrothers 10 = .ok (.iaload, 1) := by decide +kernel
theorem dX4_areBrothers_11 : decode cX4_areBrothers 11 = .ok (.aload_n 0, 1) := by decide +kernel
theorem dX4_areBrothers_12 : decode cX4_areBrothers 12 = .ok (.getfield 19, 3) := by decide +kernel
theorem dX4_areBrothers_15 : decode cX4_areBrothers 15 = .ok (.iload_n 2, 1) := by decide +kernel
theorem dX4_areBrothers_16 : decode cX4_areBrothers 16 = .ok (.iaload, 1) := by decide +kernel
theorem dX4_areBrothers_17 : decode cX4_areBrothers 17 = .ok (.if_icmp .ne 7, 3) := by decide +kernel
theorem dX4_areBrothers_20 : decode cX4_areBrothers 20 = .ok (.iconst 1, 1) := by decide +kernel
theorem dX4_areBrothers_21 : decode cX4_areBrothers 21 = .ok (.goto 4, 3) := by decide +kernel
theorem dX4_areBrothers_24 : decode cX4_areBrothers 24 = .ok (.iconst 0, 1) := by decide +kernel
theorem dX4_areBrothers_25 : decode cX4_areBrothers 25 = .ok (.ireturn, 1) := by decide +kernel
theorem dX4_isYoungerBeside_0 : decode cX4_isYoungerBeside 0 = .ok (.aload_n 0, 1) := by decide +kernel
theorem dX4_isYoungerBeside_1 : decode cX4_isYoungerBeside 1 = .ok (.getfield 19, 3) := by decide +kernel
theorem dX4_isYoungerBeside_4 : decode cX4_isYoungerBeside 4 = .ok (.iload_n 1, 1) := by decide +kernel
theorem dX4_isYoungerBeside_5 : decode cX4_isYoungerBeside 5 = .ok (.iaload, 1) := by decide +kernel
theorem dX4_isYoungerBeside_6 : decode cX4_isYoungerBeside 6 = .ok (.aload_n 0, 1) := by decide +kernel
theorem dX4_isYoungerBeside_7 : decode cX4_isYoungerBeside 7 = .ok (.getfield 19, 3) := by decide +kernel
theorem dX4_isYoungerBeside_10 : decode cX4_isYoungerBeside 10 = .ok (.iload_n 2, 1) := by decide +kernel
theorem dX4_isYoungerBeside_11 : decode cX4_isYoungerBeside 11 = .ok (.iaload, 1) := by decide +kernel
theorem dX4_isYoungerBeside_12 : decode cX4_isYoungerBeside 12 = .ok (.if_icmp .ne 37, 3) := by decide +kernel
theorem dX4_isYoungerBeside_15 : decode cX4_isYoungerBeside 15 = .ok (.aload_n 0, 1) := by decide +kernel
theorem dX4_isYoungerBeside_16 : decode cX4_isYoungerBeside 16 = .ok (.getfield 15, 3) := by decide +kernel
theorem dX4_isYoungerBeside_19 : decode cX4_isYoungerBeside 19 = .ok (.iload_n 1, 1) := by decide +kernel
theorem dX4_isYoungerBeside_20 : decode cX4_isYoungerBeside 20 = .ok (.iaload, 1) := by decide +kernel
theorem dX4_isYoungerBeside_21 : decode cX4_isYoungerBeside 21 = .ok (.aload_n 0, 1) := by decide +kernel
theorem dX4_isYoungerBeside_22 : decode cX4_isYoungerBeside 22 = .ok (.getfield 15, 3) := by decide +kernel
theorem dX4_isYoungerBeside_25 : decode cX4_isYoungerBeside 25 = .ok (.iload_n 2, 1) := by decide +kernel
theorem dX4_isYoungerBeside_26 : decode cX4_isYoungerBeside 26 = .ok (.iaload, 1) := by decide +kernel
theorem dX4_isYoungerBeside_27 : decode cX4_isYoungerBeside 27 = .ok (.if_icmp .ge 22, 3) := by decide +kernel
theorem dX4_isYoungerBeside_30 : decode cX4_isYoungerBeside 30 = .ok (.aload_n 0, 1) := by decide +kernel
theorem dX4_isYoungerBeside_31 : decode cX4_isYoungerBeside 31 = .ok (.getfield 22, 3) := by decide +kernel
theorem dX4_isYoungerBeside_34 : decode cX4_isYoungerBeside 34 = .ok (.iload_n 1, 1) := by decide +kernel
theorem dX4_isYoungerBeside_35 : decode cX4_isYoungerBeside 35 = .ok (.iaload, 1) := by decide +kernel
theorem dX4_isYoungerBeside_36 : decode cX4_isYoungerBeside 36 = .ok (.aload_n 0, 1) := by decide +kernel
theorem dX4_isYoungerBeside_37 : decode cX4_isYoungerBeside 37 = .ok (.getfield 22, 3) := by decide +kernel
theorem dX4_isYoungerBeside_40 : decode cX4_isYoungerBeside 40 = .ok (.iload_n 2, 1) := by decide +kernel
theorem dX4_isYoungerBeside_41 : decode cX4_isYoungerBeside 41 = .ok (.iaload, 1) := by decide +kernel
theorem dX4_isYoungerBeside_42 : decode cX4_isYoungerBeside 42 = .ok (.if_icmp .ne 7, 3) := by decide +kernel
theorem dX4_isYoungerBeside_45 : decode cX4_isYoungerBeside 45 = .ok (.iconst 1, 1) := by decide +kernel
theorem dX4_isYoungerBeside_46 : decode cX4_isYoungerBeside 46 = .ok (.goto 4, 3) := by decide +kernel
theorem dX4_isYoungerBeside_49 : decode cX4_isYoungerBeside 49 = .ok (.iconst 0, 1) := by decide +kernel
theorem dX4_isYoungerBeside_50 : decode cX4_isYoungerBeside 50 = .ok (.ireturn, 1) := by decide +kernel
theorem dX4_brothersOf_0 : decode cX4_brothersOf 0 = .ok (.iconst 0, 1) := by decide +kernel
theorem dX4_brothersOf_1 : decode cX4_brothersOf 1 = .ok (.istore_n 2, 1) := by decide +kernel
theorem dX4_brothersOf_2 : decode cX4_brothersOf 2 = .ok (.iconst 0, 1) := by decide +kernel
theorem dX4_brothersOf_3 : decode cX4_brothersOf 3 = .ok (.istore_n 3, 1) := by decide +kernel
theorem dX4_brothersOf_4 : decode cX4_brothersOf 4 = .ok (.iload_n 3, 1) := by decide +kernel
theorem dX4_brothersOf_5 : decode cX4_brothersOf 5 = .ok (.aload_n 0, 1) := by decide +kernel
theorem dX4_brothersOf_6 : decode cX4_brothersOf 6 = .ok (.getfield 9, 3) := by decide +kernel
theorem dX4_brothersOf_9 : decode cX4_brothersOf 9 = .ok (.if_icmp .ge 21, 3) := by decide +kernel
theorem dX4_brothersOf_12 : decode cX4_brothersOf 12 = .ok (.aload_n 0, 1) := by decide +kernel
theorem dX4_brothersOf_13 : decode cX4_brothersOf 13 = .ok (.iload_n 1, 1) := by decide +kernel
theorem dX4_brothersOf_14 : decode cX4_brothersOf 14 = .ok (.iload_n 3, 1) := by decide +kernel
theorem dX4_brothersOf_15 : decode cX4_brothersOf 15 = .ok (.invokevirtual 41, 3) := by decide +kernel
theorem dX4_brothersOf_18 : decode cX4_brothersOf 18 = .ok (.ifCond .eq 6, 3) := by decide +kernel
theorem dX4_brothersOf_21 : decode cX4_brothersOf 21 = .ok (.iinc 2 1, 3) := by decide +kernel
theorem dX4_brothersOf_24 : decode cX4_brothersOf 24 = .ok (.iinc 3 1, 3) := by decide +kernel
theorem dX4_brothersOf_27 : decode cX4_brothersOf 27 = .ok (.goto (-23), 3) := by decide +kernel
theorem dX4_brothersOf_30 : decode cX4_brothersOf 30 = .ok (.iload_n 2, 1) := by decide +kernel
theorem dX4_brothersOf_31 : decode cX4_brothersOf 31 = .ok (.ireturn, 1) := by decide +kernel
theorem dX4_firstBrotherOn_0 : decode cX4_firstBrotherOn 0 = .ok (.iconst 0, 1) := by decide +kernel
theorem dX4_firstBrotherOn_1 : decode cX4_firstBrotherOn 1 = .ok (.istore_n 3, 1) := by decide +kernel
theorem dX4_firstBrotherOn_2 : decode cX4_firstBrotherOn 2 = .ok (.iload_n 3, 1) := by decide +kernel
theorem dX4_firstBrotherOn_3 : decode cX4_firstBrotherOn 3 = .ok (.aload_n 0, 1) := by decide +kernel
theorem dX4_firstBrotherOn_4 : decode cX4_firstBrotherOn 4 = .ok (.getfield 9, 3) := by decide +kernel
theorem dX4_firstBrotherOn_7 : decode cX4_firstBrotherOn 7 = .ok (.if_icmp .ge 30, 3) := by decide +kernel
theorem dX4_firstBrotherOn_10 : decode cX4_firstBrotherOn 10 = .ok (.aload_n 0, 1) := by decide +kernel
theorem dX4_firstBrotherOn_11 : decode cX4_firstBrotherOn 11 = .ok (.getfield 22, 3) := by decide +kernel
theorem dX4_firstBrotherOn_14 : decode cX4_firstBrotherOn 14 = .ok (.iload_n 3, 1) := by decide +kernel
theorem dX4_firstBrotherOn_15 : decode cX4_firstBrotherOn 15 = .ok (.iaload, 1) := by decide +kernel
theorem dX4_firstBrotherOn_16 : decode cX4_firstBrotherOn 16 = .ok (.iload_n 1, 1) := by decide +kernel
theorem dX4_firstBrotherOn_17 : decode cX4_firstBrotherOn 17 = .ok (.if_icmp .ne 14, 3) := by decide +kernel
theorem dX4_firstBrotherOn_20 : decode cX4_firstBrotherOn 20 = .ok (.aload_n 0, 1) := by decide +kernel
theorem dX4_firstBrotherOn_21 : decode cX4_firstBrotherOn 21 = .ok (.iload_n 2, 1) := by decide +kernel
theorem dX4_firstBrotherOn_22 : decode cX4_firstBrotherOn 22 = .ok (.iload_n 3, 1) := by decide +kernel
theorem dX4_firstBrotherOn_23 : decode cX4_firstBrotherOn 23 = .ok (.invokevirtual 41, 3) := by decide +kernel
theorem dX4_firstBrotherOn_26 : decode cX4_firstBrotherOn 26 = .ok (.ifCond .eq 5, 3) := by decide +kernel
theorem dX4_firstBrotherOn_29 : decode cX4_firstBrotherOn 29 = .ok (.iload_n 3, 1) := by decide +kernel
theorem dX4_firstBrotherOn_30 : decode cX4_firstBrotherOn 30 = .ok (.ireturn, 1) := by decide +kernel
theorem dX4_firstBrotherOn_31 : decode cX4_firstBrotherOn 31 = .ok (.iinc 3 1, 3) := by decide +kernel
theorem dX4_firstBrotherOn_34 : decode cX4_firstBrotherOn 34 = .ok (.goto (-32), 3) := by decide +kernel
theorem dX4_firstBrotherOn_37 : decode cX4_firstBrotherOn 37 = .ok (.iconst (-1), 1) := by decide +kernel
theorem dX4_firstBrotherOn_38 : decode cX4_firstBrotherOn 38 = .ok (.ireturn, 1) := by decide +kernel
theorem dX5_init_0 : decode cX5_init 0 = .ok (.aload_n 0, 1) := by decide +kernel
theorem dX5_init_1 : decode cX5_init 1 = .ok (.invokespecial 3, 3) := by decide +kernel
theorem dX5_init_4 : decode cX5_init 4 = .ok (.aload_n 0, 1) := by decide +kernel
theorem dX5_init_5 : decode cX5_init 5 = .ok (.new 9, 3) := by decide +kernel
theorem dX5_init_8 : decode cX5_init 8 = .ok (.dup, 1) := by decide +kernel
theorem dX5_init_9 : decode cX5_init 9 = .ok (.invokespecial 11, 3) := by decide +kernel
theorem dX5_init_12 : decode cX5_init 12 = .ok (.putfield 12, 3) := by decide +kernel
theorem dX5_init_15 : decode cX5_init 15 = .ok (.aload_n 0, 1) := by decide +kernel
theorem dX5_init_16 : decode cX5_init 16 = .ok (.new 18, 3) := by decide +kernel
theorem dX5_init_19 : decode cX5_init 19 = .ok (.dup, 1) := by decide +kernel
theorem dX5_init_20 : decode cX5_init 20 = .ok (.invokespecial 20, 3) := by decide +kernel
theorem dX5_init_23 : decode cX5_init 23 = .ok (.putfield 21, 3) := by decide +kernel
theorem dX5_init_26 : decode cX5_init 26 = .ok (.aload_n 0, 1) := by decide +kernel
theorem dX5_init_27 : decode cX5_init 27 = .ok (.iconst 3, 1) := by decide +kernel
theorem dX5_init_28 : decode cX5_init 28 = .ok (.newarray .int, 2) := by decide +kernel
theorem dX5_init_30 : decode cX5_init 30 = .ok (.putfield 25, 3) := by decide +kernel
theorem dX5_init_33 : decode cX5_init 33 = .ok (.aload_n 0, 1) := by decide +kernel
theorem dX5_init_34 : decode cX5_init 34 = .ok (.iconst 0, 1) := by decide +kernel
theorem dX5_init_35 : decode cX5_init 35 = .ok (.putfield 29, 3) := by decide +kernel
theorem dX5_init_38 : decode cX5_init 38 = .ok (.aload_n 0, 1) := by decide +kernel
theorem dX5_init_39 : decode cX5_init 39 = .ok (.iconst 0, 1) := by decide +kernel
theorem dX5_init_40 : decode cX5_init 40 = .ok (.putfield 33, 3) := by decide +kernel
theorem dX5_init_43 : decode cX5_init 43 = .ok (.aload_n 0, 1) := by decide +kernel
theorem dX5_init_44 : decode cX5_init 44 = .ok (.iconst 0, 1) := by decide +kernel
theorem dX5_init_45 : decode cX5_init 45 = .ok (.putfield 36, 3) := by decide +kernel
theorem dX5_init_48 : decode cX5_init 48 = .ok (.aload_n 0, 1) := by decide +kernel
theorem dX5_init_49 : decode cX5_init 49 = .ok (.iconst 0, 1) := by decide +kernel
theorem dX5_init_50 : decode cX5_init 50 = .ok (.putfield 39, 3) := by decide +kernel
theorem dX5_init_53 : decode cX5_init 53 = .ok (.iconst 0, 1) := by decide +kernel
theorem dX5_init_54 : decode cX5_init 54 = .ok (.istore_n 1, 1) := by decide +kernel
theorem dX5_init_55 : decode cX5_init 55 = .ok (.iload_n 1, 1) := by decide +kernel
theorem dX5_init_56 : decode cX5_init 56 = .ok (.iconst 3, 1) := by decide +kernel
theorem dX5_init_57 : decode cX5_init 57 = .ok (.if_icmp .ge 16, 3) := by decide +kernel
theorem dX5_init_60 : decode cX5_init 60 = .ok (.aload_n 0, 1) := by decide +kernel
theorem dX5_init_61 : decode cX5_init 61 = .ok (.getfield 25, 3) := by decide +kernel
theorem dX5_init_64 : decode cX5_init 64 = .ok (.iload_n 1, 1) := by decide +kernel
theorem dX5_init_65 : decode cX5_init 65 = .ok (.iconst 3, 1) := by decide +kernel
theorem dX5_init_66 : decode cX5_init 66 = .ok (.iastore, 1) := by decide +kernel
theorem dX5_init_67 : decode cX5_init 67 = .ok (.iinc 1 1, 3) := by decide +kernel
theorem dX5_init_70 : decode cX5_init 70 = .ok (.goto (-15), 3) := by decide +kernel
theorem dX5_init_73 : decode cX5_init 73 = .ok (.return_, 1) := by decide +kernel
theorem dX5_empty_0 : decode cX5_empty 0 = .ok (.aload_n 0, 1) := by decide +kernel
theorem dX5_empty_1 : decode cX5_empty 1 = .ok (.getfield 12, 3) := by decide +kernel
theorem dX5_empty_4 : decode cX5_empty 4 = .ok (.iconst 0, 1) := by decide +kernel
theorem dX5_empty_5 : decode cX5_empty 5 = .ok (.putfield 42, 3) := by decide +kernel
theorem dX5_empty_8 : decode cX5_empty 8 = .ok (.aload_n 0, 1) := by decide +kernel
theorem dX5_empty_9 : decode cX5_empty 9 = .ok (.getfield 21, 3) := by decide +kernel
theorem dX5_empty_12 : decode cX5_empty 12 = .ok (.iconst 0, 1) := by decide +kernel
theorem dX5_empty_13 : decode cX5_empty 13 = .ok (.putfield 45, 3) := by decide +kernel
theorem dX5_empty_16 : decode cX5_empty 16 = .ok (.iconst 0, 1) := by decide +kernel
theorem dX5_empty_17 : decode cX5_empty 17 = .ok (.istore_n 1, 1) := by decide +kernel
theorem dX5_empty_18 : decode cX5_empty 18 = .ok (.iload_n 1, 1) := by decide +kernel
theorem dX5_empty_19 : decode cX5_empty 19 = .ok (.iconst 3, 1) := by decide +kernel
theorem dX5_empty_20 : decode cX5_empty 20 = .ok (.if_icmp .ge 16, 3) := by decide +kernel
theorem dX5_empty_23 : decode cX5_empty 23 = .ok (.aload_n 0, 1) := by decide +kernel
theorem dX5_empty_24 : decode cX5_empty 24 = .ok (.getfield 25, 3) := by decide +kernel
theorem dX5_empty_27 : decode cX5_empty 27 = .ok (.iload_n 1, 1) := by decide +kernel
theorem dX5_empty_28 : decode cX5_empty 28 = .ok (.iconst 3, 1) := by decide +kernel
theorem dX5_empty_29 : decode cX5_empty 29 = .ok (.iastore, 1) := by decide +kernel
theorem dX5_empty_30 : decode cX5_empty 30 = .ok (.iinc 1 1, 3) := by decide +kernel
theorem dX5_empty_33 : decode cX5_empty 33 = .ok (.goto (-15), 3) := by decide +kernel
theorem dX5_empty_36 : decode cX5_empty 36 = .ok (.aload_n 0, 1) := by decide +kernel
theorem dX5_empty_37 : decode cX5_empty 37 = .ok (.iconst 0, 1) := by decide +kernel
theorem dX5_empty_38 : decode cX5_empty 38 = .ok (.putfield 29, 3) := by decide +kernel
theorem dX5_empty_41 : decode cX5_empty 41 = .ok (.aload_n 0, 1) := by decide +kernel
theorem dX5_empty_42 : decode cX5_empty 42 = .ok (.iconst 0, 1) := by decide +kernel
theorem dX5_empty_43 : decode cX5_empty 43 = .ok (.putfield 33, 3) := by decide +kernel
theorem dX5_empty_46 : decode cX5_empty 46 = .ok (.aload_n 0, 1) := by decide +kernel
theorem dX5_empty_47 : decode cX5_empty 47 = .ok (.iconst 0, 1) := by decide +kernel
theorem dX5_empty_48 : decode cX5_empty 48 = .ok (.putfield 36, 3) := by decide +kernel
theorem dX5_empty_51 : decode cX5_empty 51 = .ok (.aload_n 0, 1) := by decide +kernel
theorem dX5_empty_52 : decode cX5_empty 52 = .ok (.iconst 0, 1) := by decide +kernel
theorem dX5_empty_53 : decode cX5_empty 53 = .ok (.putfield 39, 3) := by decide +kernel
theorem dX5_empty_56 : decode cX5_empty 56 = .ok (.return_, 1) := by decide +kernel
theorem dX5_copyFrom_0 : decode cX5_copyFrom 0 = .ok (.aload_n 0, 1) := by decide +kernel
theorem dX5_copyFrom_1 : decode cX5_copyFrom 1 = .ok (.getfield 12, 3) := by decide +kernel
theorem dX5_copyFrom_4 : decode cX5_copyFrom 4 = .ok (.aload_n 1, 1) := by decide +kernel
theorem dX5_copyFrom_5 : decode cX5_copyFrom 5 = .ok (.getfield 12, 3) := by decide +kernel
theorem dX5_copyFrom_8 : decode cX5_copyFrom 8 = .ok (.invokevirtual 46, 3) := by decide +kernel
theorem dX5_copyFrom_11 : decode cX5_copyFrom 11 = .ok (.aload_n 0, 1) := by decide +kernel
theorem dX5_copyFrom_12 : decode cX5_copyFrom 12 = .ok (.getfield 21, 3) := by decide +kernel
theorem dX5_copyFrom_15 : decode cX5_copyFrom 15 = .ok (.aload_n 1, 1) := by decide +kernel
theorem dX5_copyFrom_16 : decode cX5_copyFrom 16 = .ok (.getfield 21, 3) := by decide +kernel
theorem dX5_copyFrom_19 : decode cX5_copyFrom 19 = .ok (.invokevirtual 50, 3) := by decide +kernel
theorem dX5_copyFrom_22 : decode cX5_copyFrom 22 = .ok (.aload_n 1, 1) := by decide +kernel
theorem dX5_copyFrom_23 : decode cX5_copyFrom 23 = .ok (.getfield 25, 3) := by decide +kernel
theorem dX5_copyFrom_26 : decode cX5_copyFrom 26 = .ok (.iconst 0, 1) := by decide +kernel
theorem dX5_copyFrom_27 : decode cX5_copyFrom 27 = .ok (.aload_n 0, 1) := by decide +kernel
theorem dX5_copyFrom_28 : decode cX5_copyFrom 28 = .ok (.getfield 25, 3) := by decide +kernel
theorem dX5_copyFrom_31 : decode cX5_copyFrom 31 = .ok (.iconst 0, 1) := by decide +kernel
theorem dX5_copyFrom_32 : decode cX5_copyFrom 32 = .ok (.iconst 3, 1) := by decide +kernel
theorem dX5_copyFrom_33 : decode cX5_copyFrom 33 = .ok (.invokestatic 53, 3) := by decide +kernel
theorem dX5_copyFrom_36 : decode cX5_copyFrom 36 = .ok (.aload_n 0, 1) := by decide +kernel
theorem dX5_copyFrom_37 : decode cX5_copyFrom 37 = .ok (.aload_n 1, 1) := by decide +kernel
theorem dX5_copyFrom_38 : decode cX5_copyFrom 38 = .ok (.getfield 29, 3) := by decide +kernel
theorem dX5_copyFrom_41 : decode cX5_copyFrom 41 = .ok (.putfield 29, 3) := by decide +kernel
theorem dX5_copyFrom_44 : decode cX5_copyFrom 44 = .ok (.aload_n 0, 1) := by decide +kernel
theorem dX5_copyFrom_45 : decode cX5_copyFrom 45 = .ok (.aload_n 1, 1) := by decide +kernel
theorem dX5_copyFrom_46 : decode cX5_copyFrom 46 = .ok (.getfield 33, 3) := by decide +kernel
theorem dX5_copyFrom_49 : decode cX5_copyFrom 49 = .ok (.putfield 33, 3) := by decide +kernel
theorem dX5_copyFrom_52 : decode cX5_copyFrom 52 = .ok (.aload_n 0, 1) := by decide +kernel
theorem dX5_copyFrom_53 : decode cX5_copyFrom 53 = .ok (.aload_n 1, 1) := by decide +kernel
theorem dX5_copyFrom_54 : decode cX5_copyFrom 54 = .ok (.getfield 36, 3) := by decide +kernel
theorem dX5_copyFrom_57 : decode cX5_copyFrom 57 = .ok (.putfield 36, 3) := by decide +kernel
theorem dX5_copyFrom_60 : decode cX5_copyFrom 60 = .ok (.aload_n 0, 1) := by decide +kernel
theorem dX5_copyFrom_61 : decode cX5_copyFrom 61 = .ok (.aload_n 1, 1) := by decide +kernel
theorem dX5_copyFrom_62 : decode cX5_copyFrom 62 = .ok (.getfield 39, 3) := by decide +kernel
theorem dX5_copyFrom_65 : decode cX5_copyFrom 65 = .ok (.putfield 39, 3) := by decide +kernel
theorem dX5_copyFrom_68 : decode cX5_copyFrom 68 = .ok (.return_, 1) := by decide +kernel
theorem dX5_reasonAgainst_0 : decode cX5_reasonAgainst 0 = .ok (.aload_n 0, 1) := by decide +kernel
theorem dX5_reasonAgainst_1 : decode cX5_reasonAgainst 1 = .ok (.iload_n 1, 1) := by decide +kernel
theorem dX5_reasonAgainst_2 : decode cX5_reasonAgainst 2 = .ok (.iload_n 2, 1) := by decide +kernel
theorem dX5_reasonAgainst_3 : decode cX5_reasonAgainst 3 = .ok (.invokevirtual 59, 3) := by decide +kernel
theorem dX5_reasonAgainst_6 : decode cX5_reasonAgainst 6 = .ok (.istore 5, 2) := by decide +kernel
theorem dX5_reasonAgainst_8 : decode cX5_reasonAgainst 8 = .ok (.iload 5, 2) := by decide +kernel
theorem dX5_reasonAgainst_10 : decode cX5_reasonAgainst 10 = .ok (.ifCond .eq 6, 3) := by decide +kernel
theorem dX5_reasonAgainst_13 : decode cX5_reasonAgainst 13 = .ok (.iload 5, 2) := by decide +kernel
theorem dX5_reasonAgainst_15 : decode cX5_reasonAgainst 15 = .ok (.ireturn, 1) := by decide +kernel
theorem dX5_reasonAgainst_16 : decode cX5_reasonAgainst 16 = .ok (.aload_n 0, 1) := by decide +kernel
theorem dX5_reasonAgainst_17 : decode cX5_reasonAgainst 17 = .ok (.aload_n 0, 1) := by decide +kernel
theorem dX5_reasonAgainst_18 : decode cX5_reasonAgainst 18 = .ok (.getfield 12, 3) := by decide +kernel
theorem dX5_reasonAgainst_21 : decode cX5_reasonAgainst 21 = .ok (.getfield 63, 3) := by decide +kernel
theorem dX5_reasonAgainst_24 : decode cX5_reasonAgainst 24 = .ok (.iload_n 2, 1) := by decide +kernel
theorem dX5_reasonAgainst_25 : decode cX5_reasonAgainst 25 = .ok (.iaload, 1) := by decide +kernel
theorem dX5_reasonAgainst_26 : decode cX5_reasonAgainst 26 = .ok (.iload_n 3, 1) := by decide +kernel
theorem dX5_reasonAgainst_27 : decode cX5_reasonAgainst 27 = .ok (.iload 4, 2) := by decide +kernel
theorem dX5_reasonAgainst_29 : decode cX5_reasonAgainst 29 = .ok (.iconst (-1), 1) := by decide +kernel
theorem dX5_reasonAgainst_30 : decode cX5_reasonAgainst 30 = .ok (.invokevirtual 66, 3) := by decide +kernel
theorem dX5_reasonAgainst_33 : decode cX5_reasonAgainst 33 = .ok (.ifCond .eq 5, 3) := by decide +kernel
theorem dX5_reasonAgainst_36 : decode cX5_reasonAgainst 36 = .ok (.iconst 4, 1) := by decide +kernel
theorem dX5_reasonAgainst_37 : decode cX5_reasonAgainst 37 = .ok (.ireturn, 1) := by decide +kernel
theorem dX5_reasonAgainst_38 : decode cX5_reasonAgainst 38 = .ok (.aload_n 0, 1) := by decide +kernel
theorem dX5_reasonAgainst_39 : decode cX5_reasonAgainst 39 = .ok (.getfield 21, 3) := by decide +kernel
theorem dX5_reasonAgainst_42 : decode cX5_reasonAgainst 42 = .ok (.invokevirtual 70, 3) := by decide +kernel
theorem dX5_reasonAgainst_45 : decode cX5_reasonAgainst 45 = .ok (.ifCond .eq 7, 3) := by decide +kernel
theorem dX5_reasonAgainst_48 : decode cX5_reasonAgainst 48 = .ok (.iconst 5, 1) := by decide +kernel
theorem dX5_reasonAgainst_49 : decode cX5_reasonAgainst 49 = .ok (.goto 4, 3) := by decide +kernel
theorem dX5_reasonAgainst_52 : decode cX5_reasonAgainst 52 = .ok (.iconst 0, 1) := by decide +kernel
theorem dX5_reasonAgainst_53 : decode cX5_reasonAgainst 53 = .ok (.ireturn, 1) := by decide +kernel
theorem dX5_reasonAgainstAnyName_0 : decode cX5_reasonAgainstAnyName 0 = .ok (.iload_n 1, 1) := by decide +kernel
theorem dX5_reasonAgainstAnyName_1 : decode cX5_reasonAgainstAnyName 1 = .ok (.iload_n 2, 1) := by decide +kernel
theorem dX5_reasonAgainstAnyName_2 : decode cX5_reasonAgainstAnyName 2 = .ok (.if_icmp .ne 5, 3) := by decide +kernel
theorem dX5_reasonAgainstAnyName_5 : decode cX5_reasonAgainstAnyName 5 = .ok (.iconst 1, 1) := by decide +kernel
theorem dX5_reasonAgainstAnyName_6 : decode cX5_reasonAgainstAnyName 6 = .ok (.ireturn, 1) := by decide +kernel
theorem dX5_reasonAgainstAnyName_7 : decode cX5_reasonAgainstAnyName 7 = .ok (.aload_n 0, 1) := by decide +kernel
theorem dX5_reasonAgainstAnyName_8 : decode cX5_reasonAgainstAnyName 8 = .ok (.getfield 12, 3) := by decide +kernel
theorem dX5_reasonAgainstAnyName_11 : decode cX5_reasonAgainstAnyName 11 = .ok (.iload_n 1, 1) := by decide +kernel
theorem dX5_reasonAgainstAnyName_12 : decode cX5_reasonAgainstAnyName 12 = .ok (.iload_n 2, 1) := by decide +kernel
theorem dX5_reasonAgainstAnyName_13 : decode cX5_reasonAgainstAnyName 13 = .ok (.invokevirtual 74, 3) := by decide +kernel
theorem dX5_reasonAgainstAnyName_16 : decode cX5_reasonAgainstAnyName 16 = .ok (.ifCond .ne 26, 3) := by decide +kernel
theorem dX5_reasonAgainstAnyName_19 : decode cX5_reasonAgainstAnyName 19 = .ok (.aload_n 0, 1) := by decide +kernel
theorem dX5_reasonAgainstAnyName_20 : decode cX5_reasonAgainstAnyName 20 = .ok (.getfield 12, 3) := by decide +kernel
theorem dX5_reasonAgainstAnyName_23 : decode cX5_reasonAgainstAnyName 23 = .ok (.getfield 63, 3) := by decide +kernel
theorem dX5_reasonAgainstAnyName_26 : decode cX5_reasonAgainstAnyName 26 = .ok (.iload_n 1, 1) := by decide +kernel
theorem dX5_reasonAgainstAnyName_27 : decode cX5_reasonAgainstAnyName 27 = .ok (.iaload, 1) := by decide +kernel
theorem dX5_reasonAgainstAnyName_28 : decode cX5_reasonAgainstAnyName 28 = .ok (.aload_n 0, 1) := by decide +kernel
theorem dX5_reasonAgainstAnyName_29 : decode cX5_reasonAgainstAnyName 29 = .ok (.getfield 12, 3) := by decide +kernel
theorem dX5_reasonAgainstAnyName_32 : decode cX5_reasonAgainstAnyName 32 = .ok (.getfield 63, 3) := by decide +kernel
theorem dX5_reasonAgainstAnyName_35 : decode cX5_reasonAgainstAnyName 35 = .ok (.iload_n 2, 1) := by decide +kernel
theorem dX5_reasonAgainstAnyName_36 : decode cX5_reasonAgainstAnyName 36 = .ok (.iaload, 1) := by decide +kernel
theorem dX5_reasonAgainstAnyName_37 : decode cX5_reasonAgainstAnyName 37 = .ok (.if_icmp .eq 5, 3) := by decide +kernel
theorem dX5_reasonAgainstAnyName_40 : decode cX5_reasonAgainstAnyName 40 = .ok (.iconst 2, 1) := by decide +kernel
theorem dX5_reasonAgainstAnyName_41 : decode cX5_reasonAgainstAnyName 41 = .ok (.ireturn, 1) := by decide +kernel
theorem dX5_reasonAgainstAnyName_42 : decode cX5_reasonAgainstAnyName 42 = .ok (.aload_n 0, 1) := by decide +kernel
theorem dX5_reasonAgainstAnyName_43 : decode cX5_reasonAgainstAnyName 43 = .ok (.getfield 21, 3) := by decide +kernel
theorem dX5_reasonAgainstAnyName_46 : decode cX5_reasonAgainstAnyName 46 = .ok (.iload_n 2, 1) := by decide +kernel
theorem dX5_reasonAgainstAnyName_47 : decode cX5_reasonAgainstAnyName 47 = .ok (.invokevirtual 78, 3) := by decide +kernel
theorem dX5_reasonAgainstAnyName_50 : decode cX5_reasonAgainstAnyName 50 = .ok (.iconst 3, 1) := by decide +kernel
theorem dX5_reasonAgainstAnyName_51 : decode cX5_reasonAgainstAnyName 51 = .ok (.if_icmp .lt 7, 3) := by decide +kernel
theorem dX5_reasonAgainstAnyName_54 : decode cX5_reasonAgainstAnyName 54 = .ok (.iconst 3, 1) := by decide +kernel
theorem dX5_reasonAgainstAnyName_55 : decode cX5_reasonAgainstAnyName 55 = .ok (.goto 4, 3) := by decide +kernel
theorem dX5_reasonAgainstAnyName_58 : decode cX5_reasonAgainstAnyName 58 = .ok (.iconst 0, 1) := by decide +kernel
theorem dX5_reasonAgainstAnyName_59 : decode cX5_reasonAgainstAnyName 59 = .ok (.ireturn, 1) := by decide +kernel
theorem dX5_isTaken_0 : decode cX5_isTaken 0 = .ok (.iconst 0, 1) := by decide +kernel
theorem dX5_isTaken_1 : decode cX5_isTaken 1 = .ok (.istore 5, 2) := by decide +kernel
theorem dX5_isTaken_3 : decode cX5_isTaken 3 = .ok (.iload 5, 2) := by decide +kernel
theorem dX5_isTaken_5 : decode cX5_isTaken 5 = .ok (.aload_n 0, 1) := by decide +kernel
theorem dX5_isTaken_6 : decode cX5_isTaken 6 = .ok (.getfield 21, 3) := by decide +kernel
theorem dX5_isTaken_9 : decode cX5_isTaken 9 = .ok (.getfield 45, 3) := by decide +kernel
theorem dX5_isTaken_12 : decode cX5_isTaken 12 = .ok (.if_icmp .ge 58, 3) := by decide +kernel
theorem dX5_isTaken_15 : decode cX5_isTaken 15 = .ok (.aload_n 0, 1) := by decide +kernel
theorem dX5_isTaken_16 : decode cX5_isTaken 16 = .ok (.getfield 21, 3) := by decide +kernel
theorem dX5_isTaken_19 : decode cX5_isTaken 19 = .ok (.getfield 82, 3) := by decide +kernel
theorem dX5_isTaken_22 : decode cX5_isTaken 22 = .ok (.iload 5, 2) := by decide +kernel
theorem dX5_isTaken_24 : decode cX5_isTaken 24 = .ok (.iaload, 1) := by decide +kernel
theorem dX5_isTaken_25 : decode cX5_isTaken 25 = .ok (.istore 6, 2) := by decide +kernel
theorem dX5_isTaken_27 : decode cX5_isTaken 27 = .ok (.iload 6, 2) := by decide +kernel
theorem dX5_isTaken_29 : decode cX5_isTaken 29 = .ok (.iload 4, 2) := by decide +kernel
theorem dX5_isTaken_31 : decode cX5_isTaken 31 = .ok (.if_icmp .eq 33, 3) := by decide +kernel
theorem dX5_isTaken_34 : decode cX5_isTaken 34 = .ok (.aload_n 0, 1) := by decide +kernel
theorem dX5_isTaken_35 : decode cX5_isTaken 35 = .ok (.getfield 12, 3) := by decide +kernel
theorem dX5_isTaken_38 : decode cX5_isTaken 38 = .ok (.getfield 63, 3) := by decide +kernel
theorem dX5_isTaken_41 : decode cX5_isTaken 41 = .ok (.iload 6, 2) := by decide +kernel
theorem dX5_isTaken_43 : decode cX5_isTaken 43 = .ok (.iaload, 1) := by decide +kernel
theorem dX5_isTaken_44 : decode cX5_isTaken 44 = .ok (.iload_n 1, 1) := by decide +kernel
theorem dX5_isTaken_45 : decode cX5_isTaken 45 = .ok (.if_icmp .ne 19, 3) := by decide +kernel
theorem dX5_isTaken_48 : decode cX5_isTaken 48 = .ok (.aload_n 0, 1) := by decide +kernel
theorem dX5_isTaken_49 : decode cX5_isTaken 49 = .ok (.getfield 21, 3) := by decide +kernel
theorem dX5_isTaken_52 : decode cX5_isTaken 52 = .ok (.iload 5, 2) := by decide +kernel
theorem dX5_isTaken_54 : decode cX5_isTaken 54 = .ok (.iload_n 2, 1) := by decide +kernel
theorem dX5_isTaken_55 : decode cX5_isTaken 55 = .ok (.iload_n 3, 1) := by decide +kernel
theorem dX5_isTaken_56 : decode cX5_isTaken 56 = .ok (.invokevirtual 85, 3) := by decide +kernel
theorem dX5_isTaken_59 : decode cX5_isTaken 59 = .ok (.ifCond .eq 5, 3) := by decide +kernel
theorem dX5_isTaken_62 : decode cX5_isTaken 62 = .ok (.iconst 1, 1) := by decide +kernel
theorem dX5_isTaken_63 : decode cX5_isTaken 63 = .ok (.ireturn, 1) := by decide +kernel
theorem dX5_isTaken_64 : decode cX5_isTaken 64 = .ok (.iinc 5 1, 3) := by decide +kernel
theorem dX5_isTaken_67 : decode cX5_isTaken 67 = .ok (.goto (-64), 3) := by decide +kernel
theorem dX5_isTaken_70 : decode cX5_isTaken 70 = .ok (.iconst 0, 1) := by decide +kernel
theorem dX5_isTaken_71 : decode cX5_isTaken 71 = .ok (.ireturn, 1) := by decide +kernel
theorem dX5_isKeptFrom_0 : decode cX5_isKeptFrom 0 = .ok (.iconst 0, 1) := by decide +kernel
theorem dX5_isKeptFrom_1 : decode cX5_isKeptFrom 1 = .ok (.istore_n 3, 1) := by decide +kernel
theorem dX5_isKeptFrom_2 : decode cX5_isKeptFrom 2 = .ok (.iload_n 3, 1) := by decide +kernel
theorem dX5_isKeptFrom_3 : decode cX5_isKeptFrom 3 = .ok (.aload_n 0, 1) := by decide +kernel
theorem dX5_isKeptFrom_4 : decode cX5_isKeptFrom 4 = .ok (.getfield 21, 3) := by decide +kernel
theorem dX5_isKeptFrom_7 : decode cX5_isKeptFrom 7 = .ok (.getfield 45, 3) := by decide +kernel
theorem dX5_isKeptFrom_10 : decode cX5_isKeptFrom 10 = .ok (.if_icmp .ge 62, 3) := by decide +kernel
theorem dX5_isKeptFrom_13 : decode cX5_isKeptFrom 13 = .ok (.aload_n 0, 1) := by decide +kernel
theorem dX5_isKeptFrom_14 : decode cX5_isKeptFrom 14 = .ok (.getfield 21, 3) := by decide +kernel
theorem dX5_isKeptFrom_17 : decode cX5_isKeptFrom 17 = .ok (.getfield 82, 3) := by decide +kernel
theorem dX5_isKeptFrom_20 : decode cX5_isKeptFrom 20 = .ok (.iload_n 3, 1) := by decide +kernel
theorem dX5_isKeptFrom_21 : decode cX5_isKeptFrom 21 = .ok (.iaload, 1) := by decide +kernel
theorem dX5_isKeptFrom_22 : decode cX5_isKeptFrom 22 = .ok (.iload_n 1, 1) := by decide +kernel
theorem dX5_isKeptFrom_23 : decode cX5_isKeptFrom 23 = .ok (.if_icmp .ne 43, 3) := by decide +kernel
theorem dX5_isKeptFrom_26 : decode cX5_isKeptFrom 26 = .ok (.aload_n 0, 1) := by decide +kernel
theorem dX5_isKeptFrom_27 : decode cX5_isKeptFrom 27 = .ok (.getfield 21, 3) := by decide +kernel
theorem dX5_isKeptFrom_30 : decode cX5_isKeptFrom 30 = .ok (.iload_n 3, 1) := by decide +kernel
theorem dX5_isKeptFrom_31 : decode cX5_isKeptFrom 31 = .ok (.invokevirtual 89, 3) := by decide +kernel
theorem dX5_isKeptFrom_34 : decode cX5_isKeptFrom 34 = .ok (.ifCond .eq 32, 3) := by decide +kernel
theorem dX5_isKeptFrom_37 : decode cX5_isKeptFrom 37 = .ok (.aload_n 0, 1) := by decide +kernel
theorem dX5_isKeptFrom_38 : decode cX5_isKeptFrom 38 = .ok (.iload_n 2, 1) := by decide +kernel
theorem dX5_isKeptFrom_39 : decode cX5_isKeptFrom 39 = .ok (.aload_n 0, 1) := by decide +kernel
theorem dX5_isKeptFrom_40 : decode cX5_isKeptFrom 40 = .ok (.getfield 21, 3) := by decide +kernel
theorem dX5_isKeptFrom_43 : decode cX5_isKeptFrom 43 = .ok (.getfield 93, 3) := by decide +kernel
theorem dX5_isKeptFrom_46 : decode cX5_isKeptFrom 46 = .ok (.iload_n 3, 1) := by decide +kernel
theorem dX5_isKeptFrom_47 : decode cX5_isKeptFrom 47 = .ok (.iaload, 1) := by decide +kernel
theorem dX5_isKeptFrom_48 : decode cX5_isKeptFrom 48 = .ok (.aload_n 0, 1) := by decide +kernel
theorem dX5_isKeptFrom_49 : decode cX5_isKeptFrom 49 = .ok (.getfield 21, 3) := by decide +kernel
theorem dX5_isKeptFrom_52 : decode cX5_isKeptFrom 52 = .ok (.getfield 96, 3) := by decide +kernel
theorem dX5_isKeptFrom_55 : decode cX5_isKeptFrom 55 = .ok (.iload_n 3, 1) := by decide +kernel
theorem dX5_isKeptFrom_56 : decode cX5_isKeptFrom 56 = .ok (.iaload, 1) := by decide +kernel
theorem dX5_isKeptFrom_57 : decode cX5_isKeptFrom 57 = .ok (.iload_n 1, 1) := by decide +kernel
theorem dX5_isKeptFrom_58 : decode cX5_isKeptFrom 58 = .ok (.invokevirtual 66, 3) := by decide +kernel
theorem dX5_isKeptFrom_61 : decode cX5_isKeptFrom 61 = .ok (.ifCond .eq 5, 3) := by decide +kernel
theorem dX5_isKeptFrom_64 : decode cX5_isKeptFrom 64 = .ok (.iconst 1, 1) := by decide +kernel
theorem dX5_isKeptFrom_65 : decode cX5_isKeptFrom 65 = .ok (.ireturn, 1) := by decide +kernel
theorem dX5_isKeptFrom_66 : decode cX5_isKeptFrom 66 = .ok (.iinc 3 1, 3) := by decide +kernel
theorem dX5_isKeptFrom_69 : decode cX5_isKeptFrom 69 = .ok (.goto (-67), 3) := by decide +kernel
theorem dX5_isKeptFrom_72 : decode cX5_isKeptFrom 72 = .ok (.iconst 0, 1) := by decide +kernel
theorem dX5_isKeptFrom_73 : decode cX5_isKeptFrom 73 = .ok (.ireturn, 1) := by decide +kernel
theorem dX5_meantByPeople_0 : decode cX5_meantByPeople 0 = .ok (.iconst 0, 1) := by decide +kernel
theorem dX5_meantByPeople_1 : decode cX5_meantByPeople 1 = .ok (.istore 4, 2) := by decide +kernel
theorem dX5_meantByPeople_3 : decode cX5_meantByPeople 3 = .ok (.iload 4, 2) := by decide +kernel
theorem dX5_meantByPeople_5 : decode cX5_meantByPeople 5 = .ok (.aload_n 0, 1) := by decide +kernel
theorem dX5_meantByPeople_6 : decode cX5_meantByPeople 6 = .ok (.getfield 12, 3) := by decide +kernel
theorem dX5_meantByPeople_9 : decode cX5_meantByPeople 9 = .ok (.getfield 42, 3) := by decide +kernel
theorem dX5_meantByPeople_12 : decode cX5_meantByPeople 12 = .ok (.if_icmp .ge 41, 3) := by decide +kernel
theorem dX5_meantByPeople_15 : decode cX5_meantByPeople 15 = .ok (.aload_n 0, 1) := by decide +kernel
theorem dX5_meantByPeople_16 : decode cX5_meantByPeople 16 = .ok (.getfield 12, 3) := by decide +kernel
theorem dX5_meantByPeople_19 : decode cX5_meantByPeople 19 = .ok (.getfield 63, 3) := by decide +kernel
theorem dX5_meantByPeople_22 : decode cX5_meantByPeople 22 = .ok (.iload 4, 2) := by decide +kernel
theorem dX5_meantByPeople_24 : decode cX5_meantByPeople 24 = .ok (.iaload, 1) := by decide +kernel
theorem dX5_meantByPeople_25 : decode cX5_meantByPeople 25 = .ok (.iload_n 1, 1) := by decide +kernel
theorem dX5_meantByPeople_26 : decode cX5_meantByPeople 26 = .ok (.if_icmp .ne 21, 3) := by decide +kernel
theorem dX5_meantByPeople_29 : decode cX5_meantByPeople 29 = .ok (.aload_n 0, 1) := by decide +kernel
theorem dX5_meantByPeople_30 : decode cX5_meantByPeople 30 = .ok (.getfield 21, 3) := by decide +kernel
theorem dX5_meantByPeople_33 : decode cX5_meantByPeople 33 = .ok (.iload 4, 2) := by decide +kernel
theorem dX5_meantByPeople_35 : decode cX5_meantByPeople 35 = .ok (.iload_n 2, 1) := by decide +kernel
theorem dX5_meantByPeople_36 : decode cX5_meantByPeople 36 = .ok (.iload_n 3, 1) := by decide +kernel
theorem dX5_meantByPeople_37 : decode cX5_meantByPeople 37 = .ok (.invokevirtual 99, 3) := by decide +kernel
theorem dX5_meantByPeople_40 : decode cX5_meantByPeople 40 = .ok (.iconst (-1), 1) := by decide +kernel
theorem dX5_meantByPeople_41 : decode cX5_meantByPeople 41 = .ok (.if_icmp .eq 6, 3) := by decide +kernel
theorem dX5_meantByPeople_44 : decode cX5_meantByPeople 44 = .ok (.iload 4, 2) := by decide +kernel
theorem dX5_meantByPeople_46 : decode cX5_meantByPeople 46 = .ok (.ireturn, 1) := by decide +kernel
theorem dX5_meantByPeople_47 : decode cX5_meantByPeople 47 = .ok (.iinc 4 1, 3) := by decide +kernel
theorem dX5_meantByPeople_50 : decode cX5_meantByPeople 50 = .ok (.goto (-47), 3) := by decide +kernel
theorem dX5_meantByPeople_53 : decode cX5_meantByPeople 53 = .ok (.iconst 0, 1) := by decide +kernel
theorem dX5_meantByPeople_54 : decode cX5_meantByPeople 54 = .ok (.istore 4, 2) := by decide +kernel
theorem dX5_meantByPeople_56 : decode cX5_meantByPeople 56 = .ok (.iload 4, 2) := by decide +kernel
theorem dX5_meantByPeople_58 : decode cX5_meantByPeople 58 = .ok (.aload_n 0, 1) := by decide +kernel
theorem dX5_meantByPeople_59 : decode cX5_meantByPeople 59 = .ok (.getfield 12, 3) := by decide +kernel
theorem dX5_meantByPeople_62 : decode cX5_meantByPeople 62 = .ok (.getfield 42, 3) := by decide +kernel
theorem dX5_meantByPeople_65 : decode cX5_meantByPeople 65 = .ok (.if_icmp .ge 38, 3) := by decide +kernel
theorem dX5_meantByPeople_68 : decode cX5_meantByPeople 68 = .ok (.aload_n 0, 1) := by decide +kernel
theorem dX5_meantByPeople_69 : decode cX5_meantByPeople 69 = .ok (.getfield 12, 3) := by decide +kernel
theorem dX5_meantByPeople_72 : decode cX5_meantByPeople 72 = .ok (.getfield 63, 3) := by decide +kernel
theorem dX5_meantByPeople_75 : decode cX5_meantByPeople 75 = .ok (.iload 4, 2) := by decide +kernel
theorem dX5_meantByPeople_77 : decode cX5_meantByPeople 77 = .ok (.iaload, 1) := by decide +kernel
theorem dX5_meantByPeople_78 : decode cX5_meantByPeople 78 = .ok (.iload_n 1, 1) := by decide +kernel
theorem dX5_meantByPeople_79 : decode cX5_meantByPeople 79 = .ok (.if_icmp .ne 18, 3) := by decide +kernel
theorem dX5_meantByPeople_82 : decode cX5_meantByPeople 82 = .ok (.aload_n 0, 1) := by decide +kernel
theorem dX5_meantByPeople_83 : decode cX5_meantByPeople 83 = .ok (.iload 4, 2) := by decide +kernel
theorem dX5_meantByPeople_85 : decode cX5_meantByPeople 85 = .ok (.iload_n 2, 1) := by decide +kernel
theorem dX5_meantByPeople_86 : decode cX5_meantByPeople 86 = .ok (.iload_n 3, 1) := by decide +kernel
theorem dX5_meantByPeople_87 : decode cX5_meantByPeople 87 = .ok (.invokevirtual 103, 3) := by decide +kernel
theorem dX5_meantByPeople_90 : decode cX5_meantByPeople 90 = .ok (.iconst (-1), 1) := by decide +kernel
theorem dX5_meantByPeople_91 : decode cX5_meantByPeople 91 = .ok (.if_icmp .eq 6, 3) := by decide +kernel
theorem dX5_meantByPeople_94 : decode cX5_meantByPeople 94 = .ok (.iload 4, 2) := by decide +kernel
theorem dX5_meantByPeople_96 : decode cX5_meantByPeople 96 = .ok (.ireturn, 1) := by decide +kernel
theorem dX5_meantByPeople_97 : decode cX5_meantByPeople 97 = .ok (.iinc 4 1, 3) := by decide +kernel
theorem dX5_meantByPeople_100 : decode cX5_meantByPeople 100 = .ok (.goto (-44), 3) := by decide +kernel
theorem dX5_meantByPeople_103 : decode cX5_meantByPeople 103 = .ok (.iconst (-1), 1) := by decide +kernel
theorem dX5_meantByPeople_104 : decode cX5_meantByPeople 104 = .ok (.ireturn, 1) := by decide +kernel
theorem dX5_firstBrotherNamed_0 : decode cX5_firstBrotherNamed 0 = .ok (.iconst 0, 1) := by decide +kernel
theorem dX5_firstBrotherNamed_1 : decode cX5_firstBrotherNamed 1 = .ok (.istore 4, 2) := by decide +kernel
theorem dX5_firstBrotherNamed_3 : decode cX5_firstBrotherNamed 3 = .ok (.iload 4, 2) := by decide +kernel
theorem dX5_firstBrotherNamed_5 : decode cX5_firstBrotherNamed 5 = .ok (.aload_n 0, 1) := by decide +kernel
theorem dX5_firstBrotherNamed_6 : decode cX5_firstBrotherNamed 6 = .ok (.getfield 12, 3) := by decide +kernel
theorem dX5_firstBrotherNamed_9 : decode cX5_firstBrotherNamed 9 = .ok (.getfield 42, 3) := by decide +kernel
theorem dX5_firstBrotherNamed_12 : decode cX5_firstBrotherNamed 12 = .ok (.if_icmp .ge 40, 3) := by decide +kernel
theorem dX5_firstBrotherNamed_15 : decode cX5_firstBrotherNamed 15 = .ok (.aload_n 0, 1) := by decide +kernel
theorem dX5_firstBrotherNamed_16 : decode cX5_firstBrotherNamed 16 = .ok (.getfield 12, 3) := by decide +kernel
theorem dX5_firstBrotherNamed_19 : decode cX5_firstBrotherNamed 19 = .ok (.iload_n 1, 1) := by decide +kernel
theorem dX5_firstBrotherNamed_20 : decode cX5_firstBrotherNamed 20 = .ok (.iload 4, 2) := by decide +kernel
theorem dX5_firstBrotherNamed_22 : decode cX5_firstBrotherNamed 22 = .ok (.invokevirtual 74, 3) := by decide +kernel
theorem dX5_firstBrotherNamed_25 : decode cX5_firstBrotherNamed 25 = .ok (.ifCond .eq 21, 3) := by decide +kernel
theorem dX5_firstBrotherNamed_28 : decode cX5_firstBrotherNamed 28 = .ok (.aload_n 0, 1) := by decide +kernel
theorem dX5_firstBrotherNamed_29 : decode cX5_firstBrotherNamed 29 = .ok (.getfield 21, 3) := by decide +kernel
theorem dX5_firstBrotherNamed_32 : decode cX5_firstBrotherNamed 32 = .ok (.iload 4, 2) := by decide +kernel
theorem dX5_firstBrotherNamed_34 : decode cX5_firstBrotherNamed 34 = .ok (.iload_n 2, 1) := by decide +kernel
theorem dX5_firstBrotherNamed_35 : decode cX5_firstBrotherNamed 35 = .ok (.iload_n 3, 1) := by decide +kernel
theorem dX5_firstBrotherNamed_36 : decode cX5_firstBrotherNamed 36 = .ok (.invokevirtual 99, 3) := by decide +kernel
theorem dX5_firstBrotherNamed_39 : decode cX5_firstBrotherNamed 39 = .ok (.iconst (-1), 1) := by decide +kernel
theorem dX5_firstBrotherNamed_40 : decode cX5_firstBrotherNamed 40 = .ok (.if_icmp .eq 6, 3) := by decide +kernel
theorem dX5_firstBrotherNamed_43 : decode cX5_firstBrotherNamed 43 = .ok (.iload 4, 2) := by decide +kernel
theorem dX5_firstBrotherNamed_45 : decode cX5_firstBrotherNamed 45 = .ok (.ireturn, 1) := by decide +kernel
theorem dX5_firstBrotherNamed_46 : decode cX5_firstBrotherNamed 46 = .ok (.iinc 4 1, 3) := by decide +kernel
theorem dX5_firstBrotherNamed_49 : decode cX5_firstBrotherNamed 49 = .ok (.goto (-46), 3) := by decide +kernel
theorem dX5_firstBrotherNamed_52 : decode cX5_firstBrotherNamed 52 = .ok (.iconst (-1), 1) := by decide +kernel
theorem dX5_firstBrotherNamed_53 : decode cX5_firstBrotherNamed 53 = .ok (.ireturn, 1) := by decide +kernel
theorem dX5_meantByNames_0 : decode cX5_meantByNames 0 = .ok (.iconst (-1), 1) := by decide +kernel
theorem dX5_meantByNames_1 : decode cX5_meantByNames 1 = .ok (.istore 4, 2) := by decide +kernel
theorem dX5_meantByNames_3 : decode cX5_meantByNames 3 = .ok (.iconst 0, 1) := by decide +kernel
theorem dX5_meantByNames_4 : decode cX5_meantByNames 4 = .ok (.istore 5, 2) := by decide +kernel
theorem dX5_meantByNames_6 : decode cX5_meantByNames 6 = .ok (.iload 5, 2) := by decide +kernel
theorem dX5_meantByNames_8 : decode cX5_meantByNames 8 = .ok (.aload_n 0, 1) := by decide +kernel
theorem dX5_meantByNames_9 : decode cX5_meantByNames 9 = .ok (.getfield 21, 3) := by decide +kernel
theorem dX5_meantByNames_12 : decode cX5_meantByNames 12 = .ok (.getfield 45, 3) := by decide +kernel
theorem dX5_meantByNames_15 : decode cX5_meantByNames 15 = .ok (.if_icmp .ge 87, 3) := by decide +kernel
theorem dX5_meantByNames_18 : decode cX5_meantByNames 18 = .ok (.aload_n 0, 1) := by decide +kernel
theorem dX5_meantByNames_19 : decode cX5_meantByNames 19 = .ok (.getfield 21, 3) := by decide +kernel
theorem dX5_meantByNames_22 : decode cX5_meantByNames 22 = .ok (.iload 5, 2) := by decide +kernel
theorem dX5_meantByNames_24 : decode cX5_meantByNames 24 = .ok (.iload_n 2, 1) := by decide +kernel
theorem dX5_meantByNames_25 : decode cX5_meantByNames 25 = .ok (.iload_n 3, 1) := by decide +kernel
theorem dX5_meantByNames_26 : decode cX5_meantByNames 26 = .ok (.invokevirtual 85, 3) := by decide +kernel
theorem dX5_meantByNames_29 : decode cX5_meantByNames 29 = .ok (.ifCond .eq 67, 3) := by decide +kernel
theorem dX5_meantByNames_32 : decode cX5_meantByNames 32 = .ok (.aload_n 0, 1) := by decide +kernel
theorem dX5_meantByNames_33 : decode cX5_meantByNames 33 = .ok (.getfield 21, 3) := by decide +kernel
theorem dX5_meantByNames_36 : decode cX5_meantByNames 36 = .ok (.getfield 82, 3) := by decide +kernel
theorem dX5_meantByNames_39 : decode cX5_meantByNames 39 = .ok (.iload 5, 2) := by decide +kernel
theorem dX5_meantByNames_41 : decode cX5_meantByNames 41 = .ok (.iaload, 1) := by decide +kernel
theorem dX5_meantByNames_42 : decode cX5_meantByNames 42 = .ok (.istore 6, 2) := by decide +kernel
theorem dX5_meantByNames_44 : decode cX5_meantByNames 44 = .ok (.aload_n 0, 1) := by decide +kernel
theorem dX5_meantByNames_45 : decode cX5_meantByNames 45 = .ok (.getfield 12, 3) := by decide +kernel
theorem dX5_meantByNames_48 : decode cX5_meantByNames 48 = .ok (.getfield 63, 3) := by decide +kernel
theorem dX5_meantByNames_51 : decode cX5_meantByNames 51 = .ok (.iload 6, 2) := by decide +kernel
theorem dX5_meantByNames_53 : decode cX5_meantByNames 53 = .ok (.iaload, 1) := by decide +kernel
theorem dX5_meantByNames_54 : decode cX5_meantByNames 54 = .ok (.iload_n 1, 1) := by decide +kernel
theorem dX5_meantByNames_55 : decode cX5_meantByNames 55 = .ok (.if_icmp .ne 6, 3) := by decide +kernel
theorem dX5_meantByNames_58 : decode cX5_meantByNames 58 = .ok (.iload 6, 2) := by decide +kernel
theorem dX5_meantByNames_60 : decode cX5_meantByNames 60 = .ok (.ireturn, 1) := by decide +kernel
theorem dX5_meantByNames_61 : decode cX5_meantByNames 61 = .ok (.aload_n 0, 1) := by decide +kernel
theorem dX5_meantByNames_62 : decode cX5_meantByNames 62 = .ok (.getfield 12, 3) := by decide +kernel
theorem dX5_meantByNames_65 : decode cX5_meantByNames 65 = .ok (.iload_n 1, 1) := by decide +kernel
theorem dX5_meantByNames_66 : decode cX5_meantByNames 66 = .ok (.iload 6, 2) := by decide +kernel
theorem dX5_meantByNames_68 : decode cX5_meantByNames 68 = .ok (.invokevirtual 106, 3) := by decide +kernel
theorem dX5_meantByNames_71 : decode cX5_meantByNames 71 = .ok (.istore 7, 2) := by decide +kernel
theorem dX5_meantByNames_73 : decode cX5_meantByNames 73 = .ok (.iload 7, 2) := by decide +kernel
theorem dX5_meantByNames_75 : decode cX5_meantByNames 75 = .ok (.iconst (-1), 1) := by decide +kernel
theorem dX5_meantByNames_76 : decode cX5_meantByNames 76 = .ok (.if_icmp .eq 20, 3) := by decide +kernel
theorem dX5_meantByNames_79 : decode cX5_meantByNames 79 = .ok (.iload 4, 2) := by decide +kernel
theorem dX5_meantByNames_81 : decode cX5_meantByNames 81 = .ok (.iconst (-1), 1) := by decide +kernel
theorem dX5_meantByNames_82 : decode cX5_meantByNames 82 = .ok (.if_icmp .eq 10, 3) := by decide +kernel
theorem dX5_meantByNames_85 : decode cX5_meantByNames 85 = .ok (.iload 7, 2) := by decide +kernel
theorem dX5_meantByNames_87 : decode cX5_meantByNames 87 = .ok (.iload 4, 2) := by decide +kernel
theorem dX5_meantByNames_89 : decode cX5_meantByNames 89 = .ok (.if_icmp .ge 7, 3) := by decide +kernel
theorem dX5_meantByNames_92 : decode cX5_meantByNames 92 = .ok (.iload 7, 2) := by decide +kernel
theorem dX5_meantByNames_94 : decode cX5_meantByNames 94 = .ok (.istore 4, 2) := by decide +kernel
theorem dX5_meantByNames_96 : decode cX5_meantByNames 96 = .ok (.iinc 5 1, 3) := by decide +kernel
theorem dX5_meantByNames_99 : decode cX5_meantByNames 99 = .ok (.goto (-93), 3) := by decide +kernel
theorem dX5_meantByNames_102 : decode cX5_meantByNames 102 = .ok (.iload 4, 2) := by decide +kernel
theorem dX5_meantByNames_104 : decode cX5_meantByNames 104 = .ok (.ireturn, 1) := by decide +kernel
theorem dX5_callFor_0 : decode cX5_callFor 0 = .ok (.iload_n 1, 1) := by decide +kernel
theorem dX5_callFor_1 : decode cX5_callFor 1 = .ok (.invokestatic 109, 3) := by decide +kernel
theorem dX5_callFor_4 : decode cX5_callFor 4 = .ok (.ifCond .eq 21, 3) := by decide +kernel
theorem dX5_callFor_7 : decode cX5_callFor 7 = .ok (.iload_n 2, 1) := by decide +kernel
theorem dX5_callFor_8 : decode cX5_callFor 8 = .ok (.iload_n 3, 1) := by decide +kernel
theorem dX5_callFor_9 : decode cX5_callFor 9 = .ok (.invokestatic 112, 3) := by decide +kernel
theorem dX5_callFor_12 : decode cX5_callFor 12 = .ok (.ifCond .eq 13, 3) := by decide +kernel
theorem dX5_callFor_15 : decode cX5_callFor 15 = .ok (.aload_n 0, 1) := by decide +kernel
theorem dX5_callFor_16 : decode cX5_callFor 16 = .ok (.iload_n 1, 1) := by decide +kernel
theorem dX5_callFor_17 : decode cX5_callFor 17 = .ok (.iload_n 2, 1) := by decide +kernel
theorem dX5_callFor_18 : decode cX5_callFor 18 = .ok (.iload_n 3, 1) := by decide +kernel
theorem dX5_callFor_19 : decode cX5_callFor 19 = .ok (.invokevirtual 117, 3) := by decide +kernel
theorem dX5_callFor_22 : decode cX5_callFor 22 = .ok (.goto 4, 3) := by decide +kernel
theorem dX5_callFor_25 : decode cX5_callFor 25 = .ok (.iconst (-1), 1) := by decide +kernel
theorem dX5_callFor_26 : decode cX5_callFor 26 = .ok (.istore 4, 2) := by decide +kernel
theorem dX5_callFor_28 : decode cX5_callFor 28 = .ok (.iload 4, 2) := by decide +kernel
theorem dX5_callFor_30 : decode cX5_callFor 30 = .ok (.iconst (-1), 1) := by decide +kernel
theorem dX5_callFor_31 : decode cX5_callFor 31 = .ok (.if_icmp .ne 5, 3) := by decide +kernel
theorem dX5_callFor_34 : decode cX5_callFor 34 = .ok (.iconst (-1), 1) := by decide +kernel
theorem dX5_callFor_35 : decode cX5_callFor 35 = .ok (.ireturn, 1) := by decide +kernel
theorem dX5_callFor_36 : decode cX5_callFor 36 = .ok (.aload_n 0, 1) := by decide +kernel
theorem dX5_callFor_37 : decode cX5_callFor 37 = .ok (.getfield 21, 3) := by decide +kernel
theorem dX5_callFor_40 : decode cX5_callFor 40 = .ok (.iload 4, 2) := by decide +kernel
theorem dX5_callFor_42 : decode cX5_callFor 42 = .ok (.iload_n 2, 1) := by decide +kernel
theorem dX5_callFor_43 : decode cX5_callFor 43 = .ok (.iload_n 3, 1) := by decide +kernel
theorem dX5_callFor_44 : decode cX5_callFor 44 = .ok (.invokevirtual 99, 3) := by decide +kernel
theorem dX5_callFor_47 : decode cX5_callFor 47 = .ok (.istore 5, 2) := by decide +kernel
theorem dX5_callFor_49 : decode cX5_callFor 49 = .ok (.iload 5, 2) := by decide +kernel
theorem dX5_callFor_51 : decode cX5_callFor 51 = .ok (.iconst (-1), 1) := by decide +kernel
theorem dX5_callFor_52 : decode cX5_callFor 52 = .ok (.if_icmp .eq 25, 3) := by decide +kernel
theorem dX5_callFor_55 : decode cX5_callFor 55 = .ok (.aload_n 0, 1) := by decide +kernel
theorem dX5_callFor_56 : decode cX5_callFor 56 = .ok (.getfield 21, 3) := by decide +kernel
theorem dX5_callFor_59 : decode cX5_callFor 59 = .ok (.iload 5, 2) := by decide +kernel
theorem dX5_callFor_61 : decode cX5_callFor 61 = .ok (.aload_n 0, 1) := by decide +kernel
theorem dX5_callFor_62 : decode cX5_callFor 62 = .ok (.getfield 29, 3) := by decide +kernel
theorem dX5_callFor_65 : decode cX5_callFor 65 = .ok (.aload_n 0, 1) := by decide +kernel
theorem dX5_callFor_66 : decode cX5_callFor 66 = .ok (.getfield 25, 3) := by decide +kernel
theorem dX5_callFor_69 : decode cX5_callFor 69 = .ok (.iconst 0, 1) := by decide +kernel
theorem dX5_callFor_70 : decode cX5_callFor 70 = .ok (.iaload, 1) := by decide +kernel
theorem dX5_callFor_71 : decode cX5_callFor 71 = .ok (.invokevirtual 120, 3) := by decide +kernel
theorem dX5_callFor_74 : decode cX5_callFor 74 = .ok (.goto 17, 3) := by decide +kernel
theorem dX5_callFor_77 : decode cX5_callFor 77 = .ok (.aload_n 0, 1) := by decide +kernel
theorem dX5_callFor_78 : decode cX5_callFor 78 = .ok (.iload 4, 2) := by decide +kernel
theorem dX5_callFor_80 : decode cX5_callFor 80 = .ok (.aload_n 0, 1) := by decide +kernel
theorem dX5_callFor_81 : decode cX5_callFor 81 = .ok (.iload 4, 2) := by decide +kernel
theorem dX5_callFor_83 : decode cX5_callFor 83 = .ok (.iload_n 2, 1) := by decide +kernel
theorem dX5_callFor_84 : decode cX5_callFor 84 = .ok (.iload_n 3, 1) := by decide +kernel
theorem dX5_callFor_85 : decode cX5_callFor 85 = .ok (.invokevirtual 103, 3) := by decide +kernel
theorem dX5_callFor_88 : decode cX5_callFor 88 = .ok (.invokevirtual 124, 3) := by decide +kernel
theorem dX5_callFor_91 : decode cX5_callFor 91 = .ok (.iload 4, 2) := by decide +kernel
theorem dX5_callFor_93 : decode cX5_callFor 93 = .ok (.ireturn, 1) := by decide +kernel
theorem dX5_mixUp_0 : decode cX5_mixUp 0 = .ok (.aload_n 0, 1) := by decide +kernel
theorem dX5_mixUp_1 : decode cX5_mixUp 1 = .ok (.getfield 12, 3) := by decide +kernel
theorem dX5_mixUp_4 : decode cX5_mixUp 4 = .ok (.iload_n 1, 1) := by decide +kernel
theorem dX5_mixUp_5 : decode cX5_mixUp 5 = .ok (.invokevirtual 128, 3) := by decide +kernel
theorem dX5_mixUp_8 : decode cX5_mixUp 8 = .ok (.ifCond .eq 50, 3) := by decide +kernel
theorem dX5_mixUp_11 : decode cX5_mixUp 11 = .ok (.aload_n 0, 1) := by decide +kernel
theorem dX5_mixUp_12 : decode cX5_mixUp 12 = .ok (.getfield 12, 3) := by decide +kernel
theorem dX5_mixUp_15 : decode cX5_mixUp 15 = .ok (.iload_n 2, 1) := by decide +kernel
theorem dX5_mixUp_16 : decode cX5_mixUp 16 = .ok (.invokevirtual 128, 3) := by decide +kernel
theorem dX5_mixUp_19 : decode cX5_mixUp 19 = .ok (.ifCond .eq 39, 3) := by decide +kernel
theorem dX5_mixUp_22 : decode cX5_mixUp 22 = .ok (.aload_n 0, 1) := by decide +kernel
theorem dX5_mixUp_23 : decode cX5_mixUp 23 = .ok (.getfield 12, 3) := by decide +kernel
theorem dX5_mixUp_26 : decode cX5_mixUp 26 = .ok (.getfield 131, 3) := by decide +kernel
theorem dX5_mixUp_29 : decode cX5_mixUp 29 = .ok (.iload_n 1, 1) := by decide +kernel
theorem dX5_mixUp_30 : decode cX5_mixUp 30 = .ok (.dup2, 1) := by decide +kernel
theorem dX5_mixUp_31 : decode cX5_mixUp 31 = .ok (.iaload, 1) := by decide +kernel
theorem dX5_mixUp_32 : decode cX5_mixUp 32 = .ok (.iconst 1, 1) := by decide +kernel
theorem dX5_mixUp_33 : decode cX5_mixUp 33 = .ok (.iadd, 1) := by decide +kernel
theorem dX5_mixUp_34 : decode cX5_mixUp 34 = .ok (.iastore, 1) := by decide +kernel
theorem dX5_mixUp_35 : decode cX5_mixUp 35 = .ok (.aload_n 0, 1) := by decide +kernel
theorem dX5_mixUp_36 : decode cX5_mixUp 36 = .ok (.getfield 12, 3) := by decide +kernel
theorem dX5_mixUp_39 : decode cX5_mixUp 39 = .ok (.getfield 134, 3) := by decide +kernel
theorem dX5_mixUp_42 : decode cX5_mixUp 42 = .ok (.iload_n 2, 1) := by decide +kernel
theorem dX5_mixUp_43 : decode cX5_mixUp 43 = .ok (.dup2, 1) := by decide +kernel
theorem dX5_mixUp_44 : decode cX5_mixUp 44 = .ok (.iaload, 1) := by decide +kernel
theorem dX5_mixUp_45 : decode cX5_mixUp 45 = .ok (.iconst 1, 1) := by decide +kernel
theorem dX5_mixUp_46 : decode cX5_mixUp 46 = .ok (.iadd, 1) := by decide +kernel
theorem dX5_mixUp_47 : decode cX5_mixUp 47 = .ok (.iastore, 1) := by decide +kernel
theorem dX5_mixUp_48 : decode cX5_mixUp 48 = .ok (.aload_n 0, 1) := by decide +kernel
theorem dX5_mixUp_49 : decode cX5_mixUp 49 = .ok (.dup, 1) := by decide +kernel
theorem dX5_mixUp_50 : decode cX5_mixUp 50 = .ok (.getfield 33, 3) := by decide +kernel
theorem dX5_mixUp_53 : decode cX5_mixUp 53 = .ok (.iconst 1, 1) := by decide +kernel
theorem dX5_mixUp_54 : decode cX5_mixUp 54 = .ok (.iadd, 1) := by decide +kernel
theorem dX5_mixUp_55 : decode cX5_mixUp 55 = .ok (.putfield 33, 3) := by decide +kernel
theorem dX5_mixUp_58 : decode cX5_mixUp 58 = .ok (.return_, 1) := by decide +kernel
theorem dX5_passYears_0 : decode cX5_passYears 0 = .ok (.iload_n 1, 1) := by decide +kernel
theorem dX5_passYears_1 : decode cX5_passYears 1 = .ok (.invokestatic 137, 3) := by decide +kernel
theorem dX5_passYears_4 : decode cX5_passYears 4 = .ok (.ifCond .eq 15, 3) := by decide +kernel
theorem dX5_passYears_7 : decode cX5_passYears 7 = .ok (.aload_n 0, 1) := by decide +kernel
theorem dX5_passYears_8 : decode cX5_passYears 8 = .ok (.getfield 29, 3) := by decide +kernel
theorem dX5_passYears_11 : decode cX5_passYears 11 = .ok (.iload_n 1, 1) := by decide +kernel
theorem dX5_passYears_12 : decode cX5_passYears 12 = .ok (.iadd, 1) := by decide +kernel
theorem dX5_passYears_13 : decode cX5_passYears 13 = .ok (.sipush 999, 3) := by decide +kernel
theorem dX5_passYears_16 : decode cX5_passYears 16 = .ok (.if_icmp .le 5, 3) := by decide +kernel
theorem dX5_passYears_19 : decode cX5_passYears 19 = .ok (.iconst (-1), 1) := by decide +kernel
theorem dX5_passYears_20 : decode cX5_passYears 20 = .ok (.ireturn, 1) := by decide +kernel
theorem dX5_passYears_21 : decode cX5_passYears 21 = .ok (.iconst 0, 1) := by decide +kernel
theorem dX5_passYears_22 : decode cX5_passYears 22 = .ok (.istore_n 2, 1) := by decide +kernel
theorem dX5_passYears_23 : decode cX5_passYears 23 = .ok (.iconst 0, 1) := by decide +kernel
theorem dX5_passYears_24 : decode cX5_passYears 24 = .ok (.istore_n 3, 1) := by decide +kernel
theorem dX5_passYears_25 : decode cX5_passYears 25 = .ok (.iload_n 3, 1) := by decide +kernel
theorem dX5_passYears_26 : decode cX5_passYears 26 = .ok (.iload_n 1, 1) := by decide +kernel
theorem dX5_passYears_27 : decode cX5_passYears 27 = .ok (.if_icmp .ge 33, 3) := by decide +kernel
theorem dX5_passYears_30 : decode cX5_passYears 30 = .ok (.aload_n 0, 1) := by decide +kernel
theorem dX5_passYears_31 : decode cX5_passYears 31 = .ok (.dup, 1) := by decide +kernel
theorem dX5_passYears_32 : decode cX5_passYears 32 = .ok (.getfield 29, 3) := by decide +kernel
theorem dX5_passYears_35 : decode cX5_passYears 35 = .ok (.iconst 1, 1) := by decide +kernel
theorem dX5_passYears_36 : decode cX5_passYears 36 = .ok (.iadd, 1) := by decide +kernel
theorem dX5_passYears_37 : decode cX5_passYears 37 = .ok (.putfield 29, 3) := by decide +kernel
theorem dX5_passYears_40 : decode cX5_passYears 40 = .ok (.aload_n 0, 1) := by decide +kernel
theorem dX5_passYears_41 : decode cX5_passYears 41 = .ok (.getfield 12, 3) := by decide +kernel
theorem dX5_passYears_44 : decode cX5_passYears 44 = .ok (.invokevirtual 140, 3) := by decide +kernel
theorem dX5_passYears_47 : decode cX5_passYears 47 = .ok (.iload_n 2, 1) := by decide +kernel
theorem dX5_passYears_48 : decode cX5_passYears 48 = .ok (.aload_n 0, 1) := by decide +kernel
theorem dX5_passYears_49 : decode cX5_passYears 49 = .ok (.invokevirtual 143, 3) := by decide +kernel
theorem dX5_passYears_52 : decode cX5_passYears 52 = .ok (.iadd, 1) := by decide +kernel
theorem dX5_passYears_53 : decode cX5_passYears 53 = .ok (.istore_n 2, 1) := by decide +kernel
theorem dX5_passYears_54 : decode cX5_passYears 54 = .ok (.iinc 3 1, 3) := by decide +kernel
theorem dX5_passYears_57 : decode cX5_passYears 57 = .ok (.goto (-32), 3) := by decide +kernel
theorem dX5_passYears_60 : decode cX5_passYears 60 = .ok (.iload_n 2, 1) := by decide +kernel
theorem dX5_passYears_61 : decode cX5_passYears 61 = .ok (.ireturn, 1) := by decide +kernel
theorem dX5_endNames_0 : decode cX5_endNames 0 = .ok (.iconst 0, 1) := by decide +kernel
theorem dX5_endNames_1 : decode cX5_endNames 1 = .ok (.istore_n 1, 1) := by decide +kernel
theorem dX5_endNames_2 : decode cX5_endNames 2 = .ok (.aload_n 0, 1) := by decide +kernel
theorem dX5_endNames_3 : decode cX5_endNames 3 = .ok (.getfield 21, 3) := by decide +kernel
theorem dX5_endNames_6 : decode cX5_endNames 6 = .ok (.getfield 45, 3) := by decide +kernel
theorem dX5_endNames_9 : decode cX5_endNames 9 = .ok (.istore_n 2, 1) := by decide +kernel
theorem dX5_endNames_10 : decode cX5_endNames 10 = .ok (.iconst 0, 1) := by decide +kernel
theorem dX5_endNames_11 : decode cX5_endNames 11 = .ok (.istore_n 3, 1) := by decide +kernel
theorem dX5_endNames_12 : decode cX5_endNames 12 = .ok (.iload_n 3, 1) := by decide +kernel
theorem dX5_endNames_13 : decode cX5_endNames 13 = .ok (.iload_n 2, 1) := by decide +kernel
theorem dX5_endNames_14 : decode cX5_endNames 14 = .ok (.if_icmp .ge 95, 3) := by decide +kernel
theorem dX5_endNames_17 : decode cX5_endNames 17 = .ok (.aload_n 0, 1) := by decide +kernel
theorem dX5_endNames_18 : decode cX5_endNames 18 = .ok (.getfield 21, 3) := by decide +kernel
theorem dX5_endNames_21 : decode cX5_endNames 21 = .ok (.iload_n 3, 1) := by decide +kernel
theorem dX5_endNames_22 : decode cX5_endNames 22 = .ok (.invokevirtual 89, 3) := by decide +kernel
theorem dX5_endNames_25 : decode cX5_endNames 25 = .ok (.ifCond .ne 6, 3) := by decide +kernel
theorem dX5_endNames_28 : decode cX5_endNames 28 = .ok (.goto 75, 3) := by decide +kernel
theorem dX5_endNames_31 : decode cX5_endNames 31 = .ok (.aload_n 0, 1) := by decide +kernel
theorem dX5_endNames_32 : decode cX5_endNames 32 = .ok (.getfield 29, 3) := by decide +kernel
theorem dX5_endNames_35 : decode cX5_endNames 35 = .ok (.aload_n 0, 1) := by decide +kernel
theorem dX5_endNames_36 : decode cX5_endNames 36 = .ok (.getfield 21, 3) := by decide +kernel
theorem dX5_endNames_39 : decode cX5_endNames 39 = .ok (.getfield 147, 3) := by decide +kernel
theorem dX5_endNames_42 : decode cX5_endNames 42 = .ok (.iload_n 3, 1) := by decide +kernel
theorem dX5_endNames_43 : decode cX5_endNames 43 = .ok (.iaload, 1) := by decide +kernel
theorem dX5_endNames_44 : decode cX5_endNames 44 = .ok (.isub, 1) := by decide +kernel
theorem dX5_endNames_45 : decode cX5_endNames 45 = .ok (.aload_n 0, 1) := by decide +kernel
theorem dX5_endNames_46 : decode cX5_endNames 46 = .ok (.getfield 25, 3) := by decide +kernel
theorem dX5_endNames_49 : decode cX5_endNames 49 = .ok (.iconst 1, 1) := by decide +kernel
theorem dX5_endNames_50 : decode cX5_endNames 50 = .ok (.iaload, 1) := by decide +kernel
theorem dX5_endNames_51 : decode cX5_endNames 51 = .ok (.if_icmp .lt 19, 3) := by decide +kernel
theorem dX5_endNames_54 : decode cX5_endNames 54 = .ok (.aload_n 0, 1) := by decide +kernel
theorem dX5_endNames_55 : decode cX5_endNames 55 = .ok (.getfield 21, 3) := by decide +kernel
theorem dX5_endNames_58 : decode cX5_endNames 58 = .ok (.getfield 150, 3) := by decide +kernel
theorem dX5_endNames_61 : decode cX5_endNames 61 = .ok (.iload_n 3, 1) := by decide +kernel
theorem dX5_endNames_62 : decode cX5_endNames 62 = .ok (.iconst 2, 1) := by decide +kernel
theorem dX5_endNames_63 : decode cX5_endNames 63 = .ok (.iastore, 1) := by decide +kernel
theorem dX5_endNames_64 : decode cX5_endNames 64 = .ok (.iinc 1 1, 3) := by decide +kernel
theorem dX5_endNames_67 : decode cX5_endNames 67 = .ok (.goto 36, 3) := by decide +kernel
theorem dX5_endNames_70 : decode cX5_endNames 70 = .ok (.aload_n 0, 1) := by decide +kernel
theorem dX5_endNames_71 : decode cX5_endNames 71 = .ok (.getfield 12, 3) := by decide +kernel
theorem dX5_endNames_74 : decode cX5_endNames 74 = .ok (.getfield 153, 3) := by decide +kernel
theorem dX5_endNames_77 : decode cX5_endNames 77 = .ok (.aload_n 0, 1) := by decide +kernel
theorem dX5_endNames_78 : decode cX5_endNames 78 = .ok (.getfield 21, 3) := by decide +kernel
theorem dX5_endNames_81 : decode cX5_endNames 81 = .ok (.getfield 82, 3) := by decide +kernel
theorem dX5_endNames_84 : decode cX5_endNames 84 = .ok (.iload_n 3, 1) := by decide +kernel
theorem dX5_endNames_85 : decode cX5_endNames 85 = .ok (.iaload, 1) := by decide +kernel
theorem dX5_endNames_86 : decode cX5_endNames 86 = .ok (.iaload, 1) := by decide +kernel
theorem dX5_endNames_87 : decode cX5_endNames 87 = .ok (.aload_n 0, 1) := by decide +kernel
theorem dX5_endNames_88 : decode cX5_endNames 88 = .ok (.iload_n 3, 1) := by decide +kernel
theorem dX5_endNames_89 : decode cX5_endNames 89 = .ok (.invokevirtual 156, 3) := by decide +kernel
theorem dX5_endNames_92 : decode cX5_endNames 92 = .ok (.if_icmp .le 11, 3) := by decide +kernel
theorem dX5_endNames_95 : decode cX5_endNames 95 = .ok (.aload_n 0, 1) := by decide +kernel
theorem dX5_endNames_96 : decode cX5_endNames 96 = .ok (.iload_n 3, 1) := by decide +kernel
theorem dX5_endNames_97 : decode cX5_endNames 97 = .ok (.invokevirtual 159, 3) := by decide +kernel
theorem dX5_endNames_100 : decode cX5_endNames 100 = .ok (.iinc 1 1, 3) := by decide +kernel
theorem dX5_endNames_103 : decode cX5_endNames 103 = .ok (.iinc 3 1, 3) := by decide +kernel
theorem dX5_endNames_106 : decode cX5_endNames 106 = .ok (.goto (-94), 3) := by decide +kernel
theorem dX5_endNames_109 : decode cX5_endNames 109 = .ok (.iload_n 1, 1) := by decide +kernel
theorem dX5_endNames_110 : decode cX5_endNames 110 = .ok (.ireturn, 1) := by decide +kernel
theorem dX5_oldestFor_0 : decode cX5_oldestFor 0 = .ok (.iconst 4, 1) := by decide +kernel
theorem dX5_oldestFor_1 : decode cX5_oldestFor 1 = .ok (.aload_n 0, 1) := by decide +kernel
theorem dX5_oldestFor_2 : decode cX5_oldestFor 2 = .ok (.getfield 25, 3) := by decide +kernel
theorem dX5_oldestFor_5 : decode cX5_oldestFor 5 = .ok (.iconst 2, 1) := by decide +kernel
theorem dX5_oldestFor_6 : decode cX5_oldestFor 6 = .ok (.iaload, 1) := by decide +kernel
theorem dX5_oldestFor_7 : decode cX5_oldestFor 7 = .ok (.imul, 1) := by decide +kernel
theorem dX5_oldestFor_8 : decode cX5_oldestFor 8 = .ok (.aload_n 0, 1) := by decide +kernel
theorem dX5_oldestFor_9 : decode cX5_oldestFor 9 = .ok (.getfield 21, 3) := by decide +kernel
theorem dX5_oldestFor_12 : decode cX5_oldestFor 12 = .ok (.getfield 93, 3) := by decide +kernel
theorem dX5_oldestFor_15 : decode cX5_oldestFor 15 = .ok (.iload_n 1, 1) := by decide +kernel
theorem dX5_oldestFor_16 : decode cX5_oldestFor 16 = .ok (.iaload, 1) := by decide +kernel
theorem dX5_oldestFor_17 : decode cX5_oldestFor 17 = .ok (.imul, 1) := by decide +kernel
theorem dX5_oldestFor_18 : decode cX5_oldestFor 18 = .ok (.ireturn, 1) := by decide +kernel
theorem dX5_outgrow_0 : decode cX5_outgrow 0 = .ok (.aload_n 0, 1) := by decide +kernel
theorem dX5_outgrow_1 : decode cX5_outgrow 1 = .ok (.getfield 21, 3) := by decide +kernel
theorem dX5_outgrow_4 : decode cX5_outgrow 4 = .ok (.getfield 82, 3) := by decide +kernel
theorem dX5_outgrow_7 : decode cX5_outgrow 7 = .ok (.iload_n 1, 1) := by decide +kernel
theorem dX5_outgrow_8 : decode cX5_outgrow 8 = .ok (.iaload, 1) := by decide +kernel
theorem dX5_outgrow_9 : decode cX5_outgrow 9 = .ok (.istore_n 2, 1) := by decide +kernel
theorem dX5_outgrow_10 : decode cX5_outgrow 10 = .ok (.aload_n 0, 1) := by decide +kernel
theorem dX5_outgrow_11 : decode cX5_outgrow 11 = .ok (.getfield 21, 3) := by decide +kernel
theorem dX5_outgrow_14 : decode cX5_outgrow 14 = .ok (.getfield 150, 3) := by decide +kernel
theorem dX5_outgrow_17 : decode cX5_outgrow 17 = .ok (.iload_n 1, 1) := by decide +kernel
theorem dX5_outgrow_18 : decode cX5_outgrow 18 = .ok (.iaload, 1) := by decide +kernel
theorem dX5_outgrow_19 : decode cX5_outgrow 19 = .ok (.iconst 1, 1) := by decide +kernel
theorem dX5_outgrow_20 : decode cX5_outgrow 20 = .ok (.if_icmp .ne 21, 3) := by decide +kernel
theorem dX5_outgrow_23 : decode cX5_outgrow 23 = .ok (.aload_n 0, 1) := by decide +kernel
theorem dX5_outgrow_24 : decode cX5_outgrow 24 = .ok (.getfield 21, 3) := by decide +kernel
theorem dX5_outgrow_27 : decode cX5_outgrow 27 = .ok (.invokevirtual 70, 3) := by decide +kernel
theorem dX5_outgrow_30 : decode cX5_outgrow 30 = .ok (.ifCond .ne 11, 3) := by decide +kernel
theorem dX5_outgrow_33 : decode cX5_outgrow 33 = .ok (.aload_n 0, 1) := by decide +kernel
theorem dX5_outgrow_34 : decode cX5_outgrow 34 = .ok (.iload_n 2, 1) := by decide +kernel
theorem dX5_outgrow_35 : decode cX5_outgrow 35 = .ok (.invokevirtual 163, 3) := by decide +kernel
theorem dX5_outgrow_38 : decode cX5_outgrow 38 = .ok (.goto 4, 3) := by decide +kernel
theorem dX5_outgrow_41 : decode cX5_outgrow 41 = .ok (.iconst (-1), 1) := by decide +kernel
theorem dX5_outgrow_42 : decode cX5_outgrow 42 = .ok (.istore_n 3, 1) := by decide +kernel
theorem dX5_outgrow_43 : decode cX5_outgrow 43 = .ok (.iload_n 3, 1) := by decide +kernel
theorem dX5_outgrow_44 : decode cX5_outgrow 44 = .ok (.iconst (-1), 1) := by decide +kernel
theorem dX5_outgrow_45 : decode cX5_outgrow 45 = .ok (.if_icmp .ne 16, 3) := by decide +kernel
theorem dX5_outgrow_48 : decode cX5_outgrow 48 = .ok (.aload_n 0, 1) := by decide +kernel
theorem dX5_outgrow_49 : decode cX5_outgrow 49 = .ok (.getfield 21, 3) := by decide +kernel
theorem dX5_outgrow_52 : decode cX5_outgrow 52 = .ok (.getfield 150, 3) := by decide +kernel
theorem dX5_outgrow_55 : decode cX5_outgrow 55 = .ok (.iload_n 1, 1) := by decide +kernel
theorem dX5_outgrow_56 : decode cX5_outgrow 56 = .ok (.iconst 3, 1) := by decide +kernel
theorem dX5_outgrow_57 : decode cX5_outgrow 57 = .ok (.iastore, 1) := by decide +kernel
theorem dX5_outgrow_58 : decode cX5_outgrow 58 = .ok (.goto 44, 3) := by decide +kernel
theorem dX5_outgrow_61 : decode cX5_outgrow 61 = .ok (.aload_n 0, 1) := by decide +kernel
theorem dX5_outgrow_62 : decode cX5_outgrow 62 = .ok (.getfield 21, 3) := by decide +kernel
theorem dX5_outgrow_65 : decode cX5_outgrow 65 = .ok (.getfield 150, 3) := by decide +kernel
theorem dX5_outgrow_68 : decode cX5_outgrow 68 = .ok (.iload_n 1, 1) := by decide +kernel
theorem dX5_outgrow_69 : decode cX5_outgrow 69 = .ok (.iconst 4, 1) := by decide +kernel
theorem dX5_outgrow_70 : decode cX5_outgrow 70 = .ok (.iastore, 1) := by decide +kernel
theorem dX5_outgrow_71 : decode cX5_outgrow 71 = .ok (.aload_n 0, 1) := by decide +kernel
theorem dX5_outgrow_72 : decode cX5_outgrow 72 = .ok (.getfield 21, 3) := by decide +kernel
theorem dX5_outgrow_75 : decode cX5_outgrow 75 = .ok (.iload_n 2, 1) := by decide +kernel
theorem dX5_outgrow_76 : decode cX5_outgrow 76 = .ok (.iload_n 3, 1) := by decide +kernel
theorem dX5_outgrow_77 : decode cX5_outgrow 77 = .ok (.aload_n 0, 1) := by decide +kernel
theorem dX5_outgrow_78 : decode cX5_outgrow 78 = .ok (.getfield 21, 3) := by decide +kernel
theorem dX5_outgrow_81 : decode cX5_outgrow 81 = .ok (.getfield 93, 3) := by decide +kernel
theorem dX5_outgrow_84 : decode cX5_outgrow 84 = .ok (.iload_n 1, 1) := by decide +kernel
theorem dX5_outgrow_85 : decode cX5_outgrow 85 = .ok (.iaload, 1) := by decide +kernel
theorem dX5_outgrow_86 : decode cX5_outgrow 86 = .ok (.aload_n 0, 1) := by decide +kernel
theorem dX5_outgrow_87 : decode cX5_outgrow 87 = .ok (.getfield 21, 3) := by decide +kernel
theorem dX5_outgrow_90 : decode cX5_outgrow 90 = .ok (.getfield 96, 3) := by decide +kernel
theorem dX5_outgrow_93 : decode cX5_outgrow 93 = .ok (.iload_n 1, 1) := by decide +kernel
theorem dX5_outgrow_94 : decode cX5_outgrow 94 = .ok (.iaload, 1) := by decide +kernel
theorem dX5_outgrow_95 : decode cX5_outgrow 95 = .ok (.aload_n 0, 1) := by decide +kernel
theorem dX5_outgrow_96 : decode cX5_outgrow 96 = .ok (.getfield 29, 3) := by decide +kernel
theorem dX5_outgrow_99 : decode cX5_outgrow 99 = .ok (.invokevirtual 166, 3) := by decide +kernel
theorem dX5_outgrow_102 : decode cX5_outgrow 102 = .ok (.return_, 1) := by decide +kernel
theorem dX5_heirOf_0 : decode cX5_heirOf 0 = .ok (.iconst (-1), 1) := by decide +kernel
theorem dX5_heirOf_1 : decode cX5_heirOf 1 = .ok (.istore_n 2, 1) := by decide +kernel
theorem dX5_heirOf_2 : decode cX5_heirOf 2 = .ok (.iconst 0, 1) := by decide +kernel
theorem dX5_heirOf_3 : decode cX5_heirOf 3 = .ok (.istore_n 3, 1) := by decide +kernel
theorem dX5_heirOf_4 : decode cX5_heirOf 4 = .ok (.iload_n 3, 1) := by decide +kernel
theorem dX5_heirOf_5 : decode cX5_heirOf 5 = .ok (.aload_n 0, 1) := by decide +kernel
theorem dX5_heirOf_6 : decode cX5_heirOf 6 = .ok (.getfield 12, 3) := by decide +kernel
theorem dX5_heirOf_9 : decode cX5_heirOf 9 = .ok (.getfield 42, 3) := by decide +kernel
theorem dX5_heirOf_12 : decode cX5_heirOf 12 = .ok (.if_icmp .ge 73, 3) := by decide +kernel
theorem dX5_heirOf_15 : decode cX5_heirOf 15 = .ok (.iload_n 2, 1) := by decide +kernel
theorem dX5_heirOf_16 : decode cX5_heirOf 16 = .ok (.iconst (-1), 1) := by decide +kernel
theorem dX5_heirOf_17 : decode cX5_heirOf 17 = .ok (.if_icmp .eq 24, 3) := by decide +kernel
theorem dX5_heirOf_20 : decode cX5_heirOf 20 = .ok (.aload_n 0, 1) := by decide +kernel
theorem dX5_heirOf_21 : decode cX5_heirOf 21 = .ok (.getfield 12, 3) := by decide +kernel
theorem dX5_heirOf_24 : decode cX5_heirOf 24 = .ok (.getfield 153, 3) := by decide +kernel
theorem dX5_heirOf_27 : decode cX5_heirOf 27 = .ok (.iload_n 3, 1) := by decide +kernel
theorem dX5_heirOf_28 : decode cX5_heirOf 28 = .ok (.iaload, 1) := by decide +kernel
theorem dX5_heirOf_29 : decode cX5_heirOf 29 = .ok (.aload_n 0, 1) := by decide +kernel
theorem dX5_heirOf_30 : decode cX5_heirOf 30 = .ok (.getfield 12, 3) := by decide +kernel
theorem dX5_heirOf_33 : decode cX5_heirOf 33 = .ok (.getfield 153, 3) := by decide +kernel
theorem dX5_heirOf_36 : decode cX5_heirOf 36 = .ok (.iload_n 2, 1) := by decide +kernel
theorem dX5_heirOf_37 : decode cX5_heirOf 37 = .ok (.iaload, 1) := by decide +kernel
theorem dX5_heirOf_38 : decode cX5_heirOf 38 = .ok (.if_icmp .le 7, 3) := by decide +kernel
theorem dX5_heirOf_41 : decode cX5_heirOf 41 = .ok (.iconst 1, 1) := by decide +kernel
theorem dX5_heirOf_42 : decode cX5_heirOf 42 = .ok (.goto 4, 3) := by decide +kernel
theorem dX5_heirOf_45 : decode cX5_heirOf 45 = .ok (.iconst 0, 1) := by decide +kernel
theorem dX5_heirOf_46 : decode cX5_heirOf 46 = .ok (.istore 4, 2) := by decide +kernel
theorem dX5_heirOf_48 : decode cX5_heirOf 48 = .ok (.iload 4, 2) := by decide +kernel
theorem dX5_heirOf_50 : decode cX5_heirOf 50 = .ok (.ifCond .eq 29, 3) := by decide +kernel
theorem dX5_heirOf_53 : decode cX5_heirOf 53 = .ok (.aload_n 0, 1) := by decide +kernel
theorem dX5_heirOf_54 : decode cX5_heirOf 54 = .ok (.getfield 12, 3) := by decide +kernel
theorem dX5_heirOf_57 : decode cX5_heirOf 57 = .ok (.iload_n 3, 1) := by decide +kernel
theorem dX5_heirOf_58 : decode cX5_heirOf 58 = .ok (.iload_n 1, 1) := by decide +kernel
theorem dX5_heirOf_59 : decode cX5_heirOf 59 = .ok (.invokevirtual 170, 3) := by decide +kernel
theorem dX5_heirOf_62 : decode cX5_heirOf 62 = .ok (.ifCond .eq 17, 3) := by decide +kernel
theorem dX5_heirOf_65 : decode cX5_heirOf 65 = .ok (.aload_n 0, 1) := by decide +kernel
theorem dX5_heirOf_66 : decode cX5_heirOf 66 = .ok (.getfield 21, 3) := by decide +kernel
theorem dX5_heirOf_69 : decode cX5_heirOf 69 = .ok (.iload_n 3, 1) := by decide +kernel
theorem dX5_heirOf_70 : decode cX5_heirOf 70 = .ok (.invokevirtual 78, 3) := by decide +kernel
theorem dX5_heirOf_73 : decode cX5_heirOf 73 = .ok (.iconst 3, 1) := by decide +kernel
theorem dX5_heirOf_74 : decode cX5_heirOf 74 = .ok (.if_icmp .ge 5, 3) := by decide +kernel
theorem dX5_heirOf_77 : decode cX5_heirOf 77 = .ok (.iload_n 3, 1) := by decide +kernel
theorem dX5_heirOf_78 : decode cX5_heirOf 78 = .ok (.istore_n 2, 1) := by decide +kernel
theorem dX5_heirOf_79 : decode cX5_heirOf 79 = .ok (.iinc 3 1, 3) := by decide +kernel
theorem dX5_heirOf_82 : decode cX5_heirOf 82 = .ok (.goto (-78), 3) := by decide +kernel
theorem dX5_heirOf_85 : decode cX5_heirOf 85 = .ok (.iload_n 2, 1) := by decide +kernel
theorem dX5_heirOf_86 : decode cX5_heirOf 86 = .ok (.ireturn, 1) := by decide +kernel
theorem dX5_yearsLeft_0 : decode cX5_yearsLeft 0 = .ok (.aload_n 0, 1) := by decide +kernel
theorem dX5_yearsLeft_1 : decode cX5_yearsLeft 1 = .ok (.getfield 21, 3) := by decide +kernel
theorem dX5_yearsLeft_4 : decode cX5_yearsLeft 4 = .ok (.iload_n 1, 1) := by decide +kernel
theorem dX5_yearsLeft_5 : decode cX5_yearsLeft 5 = .ok (.invokevirtual 89, 3) := by decide +kernel
theorem dX5_yearsLeft_8 : decode cX5_yearsLeft 8 = .ok (.ifCond .ne 5, 3) := by decide +kernel
theorem dX5_yearsLeft_11 : decode cX5_yearsLeft 11 = .ok (.iconst 0, 1) := by decide +kernel
theorem dX5_yearsLeft_12 : decode cX5_yearsLeft 12 = .ok (.ireturn, 1) := by decide +kernel
theorem dX5_yearsLeft_13 : decode cX5_yearsLeft 13 = .ok (.aload_n 0, 1) := by decide +kernel
theorem dX5_yearsLeft_14 : decode cX5_yearsLeft 14 = .ok (.getfield 25, 3) := by decide +kernel
theorem dX5_yearsLeft_17 : decode cX5_yearsLeft 17 = .ok (.iconst 1, 1) := by decide +kernel
theorem dX5_yearsLeft_18 : decode cX5_yearsLeft 18 = .ok (.iaload, 1) := by decide +kernel
theorem dX5_yearsLeft_19 : decode cX5_yearsLeft 19 = .ok (.aload_n 0, 1) := by decide +kernel
theorem dX5_yearsLeft_20 : decode cX5_yearsLeft 20 = .ok (.getfield 29, 3) := by decide +kernel
theorem dX5_yearsLeft_23 : decode cX5_yearsLeft 23 = .ok (.aload_n 0, 1) := by decide +kernel
theorem dX5_yearsLeft_24 : decode cX5_yearsLeft 24 = .ok (.getfield 21, 3) := by decide +kernel
theorem dX5_yearsLeft_27 : decode cX5_yearsLeft 27 = .ok (.getfield 147, 3) := by decide +kernel
theorem dX5_yearsLeft_30 : decode cX5_yearsLeft 30 = .ok (.iload_n 1, 1) := by decide +kernel
theorem dX5_yearsLeft_31 : decode cX5_yearsLeft 31 = .ok (.iaload, 1) := by decide +kernel
theorem dX5_yearsLeft_32 : decode cX5_yearsLeft 32 = .ok (.isub, 1) := by decide +kernel
theorem dX5_yearsLeft_33 : decode cX5_yearsLeft 33 = .ok (.isub, 1) := by decide +kernel
theorem dX5_yearsLeft_34 : decode cX5_yearsLeft 34 = .ok (.istore_n 2, 1) := by decide +kernel
theorem dX5_yearsLeft_35 : decode cX5_yearsLeft 35 = .ok (.aload_n 0, 1) := by decide +kernel
theorem dX5_yearsLeft_36 : decode cX5_yearsLeft 36 = .ok (.iload_n 1, 1) := by decide +kernel
theorem dX5_yearsLeft_37 : decode cX5_yearsLeft 37 = .ok (.invokevirtual 156, 3) := by decide +kernel
theorem dX5_yearsLeft_40 : decode cX5_yearsLeft 40 = .ok (.aload_n 0, 1) := by decide +kernel
theorem dX5_yearsLeft_41 : decode cX5_yearsLeft 41 = .ok (.getfield 12, 3) := by decide +kernel
theorem dX5_yearsLeft_44 : decode cX5_yearsLeft 44 = .ok (.getfield 153, 3) := by decide +kernel
theorem dX5_yearsLeft_47 : decode cX5_yearsLeft 47 = .ok (.aload_n 0, 1) := by decide +kernel
theorem dX5_yearsLeft_48 : decode cX5_yearsLeft 48 = .ok (.getfield 21, 3) := by decide +kernel
theorem dX5_yearsLeft_51 : decode cX5_yearsLeft 51 = .ok (.getfield 82, 3) := by decide +kernel
theorem dX5_yearsLeft_54 : decode cX5_yearsLeft 54 = .ok (.iload_n 1, 1) := by decide +kernel
theorem dX5_yearsLeft_55 : decode cX5_yearsLeft 55 = .ok (.iaload, 1) := by decide +kernel
theorem dX5_yearsLeft_56 : decode cX5_yearsLeft 56 = .ok (.iaload, 1) := by decide +kernel
theorem dX5_yearsLeft_57 : decode cX5_yearsLeft 57 = .ok (.isub, 1) := by decide +kernel
theorem dX5_yearsLeft_58 : decode cX5_yearsLeft 58 = .ok (.iconst 1, 1) := by decide +kernel
theorem dX5_yearsLeft_59 : decode cX5_yearsLeft 59 = .ok (.iadd, 1) := by decide +kernel
theorem dX5_yearsLeft_60 : decode cX5_yearsLeft 60 = .ok (.istore_n 3, 1) := by decide +kernel
theorem dX5_yearsLeft_61 : decode cX5_yearsLeft 61 = .ok (.iconst 1, 1) := by decide +kernel
theorem dX5_yearsLeft_62 : decode cX5_yearsLeft 62 = .ok (.iload_n 2, 1) := by decide +kernel
theorem dX5_yearsLeft_63 : decode cX5_yearsLeft 63 = .ok (.iload_n 3, 1) := by decide +kernel
theorem dX5_yearsLeft_64 : decode cX5_yearsLeft 64 = .ok (.invokestatic 173, 3) := by decide +kernel
theorem dX5_yearsLeft_67 : decode cX5_yearsLeft 67 = .ok (.invokestatic 178, 3) := by decide +kernel
theorem dX5_yearsLeft_70 : decode cX5_yearsLeft 70 = .ok (.ireturn, 1) := by decide +kernel
theorem dX5_triesPerson_0 : decode cX5_triesPerson 0 = .ok (.iload_n 2, 1) := by decide +kernel
theorem dX5_triesPerson_1 : decode cX5_triesPerson 1 = .ok (.invokestatic 181, 3) := by decide +kernel
theorem dX5_triesPerson_4 : decode cX5_triesPerson 4 = .ok (.ifCond .eq 27, 3) := by decide +kernel
theorem dX5_triesPerson_7 : decode cX5_triesPerson 7 = .ok (.iload_n 3, 1) := by decide +kernel
theorem dX5_triesPerson_8 : decode cX5_triesPerson 8 = .ok (.invokestatic 109, 3) := by decide +kernel
theorem dX5_triesPerson_11 : decode cX5_triesPerson 11 = .ok (.ifCond .eq 20, 3) := by decide +kernel
theorem dX5_triesPerson_14 : decode cX5_triesPerson 14 = .ok (.iload_n 1, 1) := by decide +kernel
theorem dX5_triesPerson_15 : decode cX5_triesPerson 15 = .ok (.invokestatic 184, 3) := by decide +kernel
theorem dX5_triesPerson_18 : decode cX5_triesPerson 18 = .ok (.ifCond .eq 13, 3) := by decide +kernel
theorem dX5_triesPerson_21 : decode cX5_triesPerson 21 = .ok (.aload_n 0, 1) := by decide +kernel
theorem dX5_triesPerson_22 : decode cX5_triesPerson 22 = .ok (.getfield 12, 3) := by decide +kernel
theorem dX5_triesPerson_25 : decode cX5_triesPerson 25 = .ok (.invokevirtual 187, 3) := by decide +kernel
theorem dX5_triesPerson_28 : decode cX5_triesPerson 28 = .ok (.ifCond .eq 5, 3) := by decide +kernel
theorem dX5_triesPerson_31 : decode cX5_triesPerson 31 = .ok (.iconst 0, 1) := by decide +kernel
theorem dX5_triesPerson_32 : decode cX5_triesPerson 32 = .ok (.ireturn, 1) := by decide +kernel
theorem dX5_triesPerson_33 : decode cX5_triesPerson 33 = .ok (.aload_n 0, 1) := by decide +kernel
theorem dX5_triesPerson_34 : decode cX5_triesPerson 34 = .ok (.getfield 12, 3) := by decide +kernel
theorem dX5_triesPerson_37 : decode cX5_triesPerson 37 = .ok (.iload_n 1, 1) := by decide +kernel
theorem dX5_triesPerson_38 : decode cX5_triesPerson 38 = .ok (.iload_n 2, 1) := by decide +kernel
theorem dX5_triesPerson_39 : decode cX5_triesPerson 39 = .ok (.iload_n 3, 1) := by decide +kernel
theorem dX5_triesPerson_40 : decode cX5_triesPerson 40 = .ok (.invokevirtual 188, 3) := by decide +kernel
theorem dX5_triesPerson_43 : decode cX5_triesPerson 43 = .ok (.iconst 1, 1) := by decide +kernel
theorem dX5_triesPerson_44 : decode cX5_triesPerson 44 = .ok (.ireturn, 1) := by decide +kernel
theorem dX5_triesSitting_0 : decode cX5_triesSitting 0 = .ok (.aload_n 0, 1) := by decide +kernel
theorem dX5_triesSitting_1 : decode cX5_triesSitting 1 = .ok (.getfield 12, 3) := by decide +kernel
theorem dX5_triesSitting_4 : decode cX5_triesSitting 4 = .ok (.iload_n 1, 1) := by decide +kernel
theorem dX5_triesSitting_5 : decode cX5_triesSitting 5 = .ok (.invokevirtual 128, 3) := by decide +kernel
theorem dX5_triesSitting_8 : decode cX5_triesSitting 8 = .ok (.ifCond .eq 19, 3) := by decide +kernel
theorem dX5_triesSitting_11 : decode cX5_triesSitting 11 = .ok (.iload_n 2, 1) := by decide +kernel
theorem dX5_triesSitting_12 : decode cX5_triesSitting 12 = .ok (.invokestatic 109, 3) := by decide +kernel
theorem dX5_triesSitting_15 : decode cX5_triesSitting 15 = .ok (.ifCond .eq 12, 3) := by decide +kernel
theorem dX5_triesSitting_18 : decode cX5_triesSitting 18 = .ok (.aload_n 0, 1) := by decide +kernel
theorem dX5_triesSitting_19 : decode cX5_triesSitting 19 = .ok (.iload_n 1, 1) := by decide +kernel
theorem dX5_triesSitting_20 : decode cX5_triesSitting 20 = .ok (.iload_n 2, 1) := by decide +kernel
theorem dX5_triesSitting_21 : decode cX5_triesSitting 21 = .ok (.invokevirtual 190, 3) := by decide +kernel
theorem dX5_triesSitting_24 : decode cX5_triesSitting 24 = .ok (.ifCond .eq 5, 3) := by decide +kernel
theorem dX5_triesSitting_27 : decode cX5_triesSitting 27 = .ok (.iconst 0, 1) := by decide +kernel
theorem dX5_triesSitting_28 : decode cX5_triesSitting 28 = .ok (.ireturn, 1) := by decide +kernel
theorem dX5_triesSitting_29 : decode cX5_triesSitting 29 = .ok (.aload_n 0, 1) := by decide +kernel
theorem dX5_triesSitting_30 : decode cX5_triesSitting 30 = .ok (.getfield 12, 3) := by decide +kernel
theorem dX5_triesSitting_33 : decode cX5_triesSitting 33 = .ok (.getfield 63, 3) := by decide +kernel
theorem dX5_triesSitting_36 : decode cX5_triesSitting 36 = .ok (.iload_n 1, 1) := by decide +kernel
theorem dX5_triesSitting_37 : decode cX5_triesSitting 37 = .ok (.iload_n 2, 1) := by decide +kernel
theorem dX5_triesSitting_38 : decode cX5_triesSitting 38 = .ok (.iastore, 1) := by decide +kernel
theorem dX5_triesSitting_39 : decode cX5_triesSitting 39 = .ok (.iconst 1, 1) := by decide +kernel
theorem dX5_triesSitting_40 : decode cX5_triesSitting 40 = .ok (.ireturn, 1) := by decide +kernel
theorem dX5_triesGiving_0 : decode cX5_triesGiving 0 = .ok (.aload_n 0, 1) := by decide +kernel
theorem dX5_triesGiving_1 : decode cX5_triesGiving 1 = .ok (.getfield 12, 3) := by decide +kernel
theorem dX5_triesGiving_4 : decode cX5_triesGiving 4 = .ok (.iload_n 1, 1) := by decide +kernel
theorem dX5_triesGiving_5 : decode cX5_triesGiving 5 = .ok (.invokevirtual 128, 3) := by decide +kernel
theorem dX5_triesGiving_8 : decode cX5_triesGiving 8 = .ok (.ifCond .eq 23, 3) := by decide +kernel
theorem dX5_triesGiving_11 : decode cX5_triesGiving 11 = .ok (.aload_n 0, 1) := by decide +kernel
theorem dX5_triesGiving_12 : decode cX5_triesGiving 12 = .ok (.getfield 12, 3) := by decide +kernel
theorem dX5_triesGiving_15 : decode cX5_triesGiving 15 = .ok (.iload_n 2, 1) := by decide +kernel
theorem dX5_triesGiving_16 : decode cX5_triesGiving 16 = .ok (.invokevirtual 128, 3) := by decide +kernel
theorem dX5_triesGiving_19 : decode cX5_triesGiving 19 = .ok (.ifCond .eq 12, 3) := by decide +kernel
theorem dX5_triesGiving_22 : decode cX5_triesGiving 22 = .ok (.iload_n 3, 1) := by decide +kernel
theorem dX5_triesGiving_23 : decode cX5_triesGiving 23 = .ok (.iload 4, 2) := by decide +kernel
theorem dX5_triesGiving_25 : decode cX5_triesGiving 25 = .ok (.invokestatic 112, 3) := by decide +kernel
theorem dX5_triesGiving_28 : decode cX5_triesGiving 28 = .ok (.ifCond .ne 5, 3) := by decide +kernel
theorem dX5_triesGiving_31 : decode cX5_triesGiving 31 = .ok (.iconst 0, 1) := by decide +kernel
theorem dX5_triesGiving_32 : decode cX5_triesGiving 32 = .ok (.ireturn, 1) := by decide +kernel
theorem dX5_triesGiving_33 : decode cX5_triesGiving 33 = .ok (.aload_n 0, 1) := by decide +kernel
theorem dX5_triesGiving_34 : decode cX5_triesGiving 34 = .ok (.iload_n 1, 1) := by decide +kernel
theorem dX5_triesGiving_35 : decode cX5_triesGiving 35 = .ok (.iload_n 2, 1) := by decide +kernel
theorem dX5_triesGiving_36 : decode cX5_triesGiving 36 = .ok (.iload_n 3, 1) := by decide +kernel
theorem dX5_triesGiving_37 : decode cX5_triesGiving 37 = .ok (.iload 4, 2) := by decide +kernel
theorem dX5_triesGiving_39 : decode cX5_triesGiving 39 = .ok (.invokevirtual 193, 3) := by decide +kernel
theorem dX5_triesGiving_42 : decode cX5_triesGiving 42 = .ok (.ifCond .eq 5, 3) := by decide +kernel
theorem dX5_triesGiving_45 : decode cX5_triesGiving 45 = .ok (.iconst 0, 1) := by decide +kernel
theorem dX5_triesGiving_46 : decode cX5_triesGiving 46 = .ok (.ireturn, 1) := by decide +kernel
theorem dX5_triesGiving_47 : decode cX5_triesGiving 47 = .ok (.aload_n 0, 1) := by decide +kernel
theorem dX5_triesGiving_48 : decode cX5_triesGiving 48 = .ok (.getfield 21, 3) := by decide +kernel
theorem dX5_triesGiving_51 : decode cX5_triesGiving 51 = .ok (.iload_n 1, 1) := by decide +kernel
theorem dX5_triesGiving_52 : decode cX5_triesGiving 52 = .ok (.iload_n 2, 1) := by decide +kernel
theorem dX5_triesGiving_53 : decode cX5_triesGiving 53 = .ok (.iload_n 3, 1) := by decide +kernel
theorem dX5_triesGiving_54 : decode cX5_triesGiving 54 = .ok (.iload 4, 2) := by decide +kernel
theorem dX5_triesGiving_56 : decode cX5_triesGiving 56 = .ok (.aload_n 0, 1) := by decide +kernel
theorem dX5_triesGiving_57 : decode cX5_triesGiving 57 = .ok (.getfield 29, 3) := by decide +kernel
theorem dX5_triesGiving_60 : decode cX5_triesGiving 60 = .ok (.invokevirtual 166, 3) := by decide +kernel
theorem dX5_triesGiving_63 : decode cX5_triesGiving 63 = .ok (.iconst 1, 1) := by decide +kernel
theorem dX5_triesGiving_64 : decode cX5_triesGiving 64 = .ok (.ireturn, 1) := by decide +kernel
theorem dX5_triesSetting_0 : decode cX5_triesSetting 0 = .ok (.iload_n 1, 1) := by decide +kernel
theorem dX5_triesSetting_1 : decode cX5_triesSetting 1 = .ok (.iload_n 2, 1) := by decide +kernel
theorem dX5_triesSetting_2 : decode cX5_triesSetting 2 = .ok (.invokestatic 197, 3) := by decide +kernel
theorem dX5_triesSetting_5 : decode cX5_triesSetting 5 = .ok (.ifCond .ne 5, 3) := by decide +kernel
theorem dX5_triesSetting_8 : decode cX5_triesSetting 8 = .ok (.iconst 0, 1) := by decide +kernel
theorem dX5_triesSetting_9 : decode cX5_triesSetting 9 = .ok (.ireturn, 1) := by decide +kernel
theorem dX5_triesSetting_10 : decode cX5_triesSetting 10 = .ok (.aload_n 0, 1) := by decide +kernel
theorem dX5_triesSetting_11 : decode cX5_triesSetting 11 = .ok (.getfield 25, 3) := by decide +kernel
theorem dX5_triesSetting_14 : decode cX5_triesSetting 14 = .ok (.iload_n 1, 1) := by decide +kernel
theorem dX5_triesSetting_15 : decode cX5_triesSetting 15 = .ok (.iload_n 2, 1) := by decide +kernel
theorem dX5_triesSetting_16 : decode cX5_triesSetting 16 = .ok (.iastore, 1) := by decide +kernel
theorem dX5_triesSetting_17 : decode cX5_triesSetting 17 = .ok (.iconst 1, 1) := by decide +kernel
theorem dX5_triesSetting_18 : decode cX5_triesSetting 18 = .ok (.ireturn, 1) := by decide +kernel
theorem dX5_obeys_0 : decode cX5_obeys 0 = .ok (.aload_n 1, 1) := by decide +kernel
theorem dX5_obeys_1 : decode cX5_obeys 1 = .ok (.getfield 200, 3) := by decide +kernel
theorem dX5_obeys_4 : decode cX5_obeys 4 = .ok (.astore_n 2, 1) := by decide +kernel
theorem dX5_obeys_5 : decode cX5_obeys 5 = .ok (.aload_n 1, 1) := by decide +kernel
theorem dX5_obeys_6 : decode cX5_obeys 6 = .ok (.getfield 205, 3) := by decide +kernel
theorem dX5_obeys_9 : decode cX5_obeys 9 = .ok (.lookupswitch 152 #[(98, 130), (99, 90), (103, 73), (112, 59), (115, 141), (121, 113)], 59) := by decide +kernel
theorem dX5_obeys_68 : decode cX5_obeys 68 = .ok (.aload_n 0, 1) := by decide +kernel
theorem dX5_obeys_69 : decode cX5_obeys 69 = .ok (.aload_n 2, 1) := by decide +kernel
theorem dX5_obeys_70 : decode cX5_obeys 70 = .ok (.iconst 0, 1) := by decide +kernel
theorem dX5_obeys_71 : decode cX5_obeys 71 = .ok (.iaload, 1) := by decide +kernel
theorem dX5_obeys_72 : decode cX5_obeys 72 = .ok (.aload_n 2, 1) := by decide +kernel
theorem dX5_obeys_73 : decode cX5_obeys 73 = .ok (.iconst 1, 1) := by decide +kernel
theorem dX5_obeys_74 : decode cX5_obeys 74 = .ok (.iaload, 1) := by decide +kernel
theorem dX5_obeys_75 : decode cX5_obeys 75 = .ok (.aload_n 2, 1) := by decide +kernel
theorem dX5_obeys_76 : decode cX5_obeys 76 = .ok (.iconst 2, 1) := by decide +kernel
theorem dX5_obeys_77 : decode cX5_obeys 77 = .ok (.iaload, 1) := by decide +kernel
theorem dX5_obeys_78 : decode cX5_obeys 78 = .ok (.invokevirtual 208, 3) := by decide +kernel
theorem dX5_obeys_81 : decode cX5_obeys 81 = .ok (.ireturn, 1) := by decide +kernel
theorem dX5_obeys_82 : decode cX5_obeys 82 = .ok (.aload_n 0, 1) := by decide +kernel
theorem dX5_obeys_83 : decode cX5_obeys 83 = .ok (.aload_n 2, 1) := by decide +kernel
theorem dX5_obeys_84 : decode cX5_obeys 84 = .ok (.iconst 0, 1) := by decide +kernel
theorem dX5_obeys_85 : decode cX5_obeys 85 = .ok (.iaload, 1) := by decide +kernel
theorem dX5_obeys_86 : decode cX5_obeys 86 = .ok (.aload_n 2, 1) := by decide +kernel
theorem dX5_obeys_87 : decode cX5_obeys 87 = .ok (.iconst 1, 1) := by decide +kernel
theorem dX5_obeys_88 : decode cX5_obeys 88 = .ok (.iaload, 1) := by decide +kernel
theorem dX5_obeys_89 : decode cX5_obeys 89 = .ok (.aload_n 2, 1) := by decide +kernel
theorem dX5_obeys_90 : decode cX5_obeys 90 = .ok (.iconst 2, 1) := by decide +kernel
theorem dX5_obeys_91 : decode cX5_obeys 91 = .ok (.iaload, 1) := by decide +kernel
theorem dX5_obeys_92 : decode cX5_obeys 92 = .ok (.aload_n 2, 1) := by decide +kernel
theorem dX5_obeys_93 : decode cX5_obeys 93 = .ok (.iconst 3, 1) := by decide +kernel
theorem dX5_obeys_94 : decode cX5_obeys 94 = .ok (.iaload, 1) := by decide +kernel
theorem dX5_obeys_95 : decode cX5_obeys 95 = .ok (.invokevirtual 211, 3) := by decide +kernel
theorem dX5_obeys_98 : decode cX5_obeys 98 = .ok (.ireturn, 1) := by decide +kernel
theorem dX5_obeys_99 : decode cX5_obeys 99 = .ok (.aload_n 0, 1) := by decide +kernel
theorem dX5_obeys_100 : decode cX5_obeys 100 = .ok (.aload_n 2, 1) := by decide +kernel
theorem dX5_obeys_101 : decode cX5_obeys 101 = .ok (.iconst 0, 1) := by decide +kernel
theorem dX5_obeys_102 : decode cX5_obeys 102 = .ok (.iaload, 1) := by decide +kernel
theorem dX5_obeys_103 : decode cX5_obeys 103 = .ok (.aload_n 2, 1) := by decide +kernel
theorem dX5_obeys_104 : decode cX5_obeys 104 = .ok (.iconst 1, 1) := by decide +kernel
theorem dX5_obeys_105 : decode cX5_obeys 105 = .ok (.iaload, 1) := by decide +kernel
theorem dX5_obeys_106 : decode cX5_obeys 106 = .ok (.aload_n 2, 1) := by decide +kernel
theorem dX5_obeys_107 : decode cX5_obeys 107 = .ok (.iconst 2, 1) := by decide +kernel
theorem dX5_obeys_108 : decode cX5_obeys 108 = .ok (.iaload, 1) := by decide +kernel
theorem dX5_obeys_109 : decode cX5_obeys 109 = .ok (.invokevirtual 214, 3) := by decide +kernel
theorem dX5_obeys_112 : decode cX5_obeys 112 = .ok (.iconst (-1), 1) := by decide +kernel
theorem dX5_obeys_113 : decode cX5_obeys 113 = .ok (.if_icmp .eq 7, 3) := by decide +kernel
theorem dX5_obeys_116 : decode cX5_obeys 116 = .ok (.iconst 1, 1) := by decide +kernel
theorem dX5_obeys_117 : decode cX5_obeys 117 = .ok (.goto 4, 3) := by decide +kernel
theorem dX5_obeys_120 : decode cX5_obeys 120 = .ok (.iconst 0, 1) := by decide +kernel
theorem dX5_obeys_121 : decode cX5_obeys 121 = .ok (.ireturn, 1) := by decide +kernel
theorem dX5_obeys_122 : decode cX5_obeys 122 = .ok (.aload_n 0, 1) := by decide +kernel
theorem dX5_obeys_123 : decode cX5_obeys 123 = .ok (.aload_n 2, 1) := by decide +kernel
theorem dX5_obeys_124 : decode cX5_obeys 124 = .ok (.iconst 0, 1) := by decide +kernel
theorem dX5_obeys_125 : decode cX5_obeys 125 = .ok (.iaload, 1) := by decide +kernel
theorem dX5_obeys_126 : decode cX5_obeys 126 = .ok (.invokevirtual 217, 3) := by decide +kernel
theorem dX5_obeys_129 : decode cX5_obeys 129 = .ok (.iconst (-1), 1) := by decide +kernel
theorem dX5_obeys_130 : decode cX5_obeys 130 = .ok (.if_icmp .eq 7, 3) := by decide +kernel
theorem dX5_obeys_133 : decode cX5_obeys 133 = .ok (.iconst 1, 1) := by decide +kernel
theorem dX5_obeys_134 : decode cX5_obeys 134 = .ok (.goto 4, 3) := by decide +kernel
theorem dX5_obeys_137 : decode cX5_obeys 137 = .ok (.iconst 0, 1) := by decide +kernel
theorem dX5_obeys_138 : decode cX5_obeys 138 = .ok (.ireturn, 1) := by decide +kernel
theorem dX5_obeys_139 : decode cX5_obeys 139 = .ok (.aload_n 0, 1) := by decide +kernel
theorem dX5_obeys_140 : decode cX5_obeys 140 = .ok (.aload_n 2, 1) := by decide +kernel
theorem dX5_obeys_141 : decode cX5_obeys 141 = .ok (.iconst 0, 1) := by decide +kernel
theorem dX5_obeys_142 : decode cX5_obeys 142 = .ok (.iaload, 1) := by decide +kernel
theorem dX5_obeys_143 : decode cX5_obeys 143 = .ok (.aload_n 2, 1) := by decide +kernel
theorem dX5_obeys_144 : decode cX5_obeys 144 = .ok (.iconst 1, 1) := by decide +kernel
theorem dX5_obeys_145 : decode cX5_obeys 145 = .ok (.iaload, 1) := by decide +kernel
theorem dX5_obeys_146 : decode cX5_obeys 146 = .ok (.invokevirtual 220, 3) := by decide +kernel
theorem dX5_obeys_149 : decode cX5_obeys 149 = .ok (.ireturn, 1) := by decide +kernel
theorem dX5_obeys_150 : decode cX5_obeys 150 = .ok (.aload_n 0, 1) := by decide +kernel
theorem dX5_obeys_151 : decode cX5_obeys 151 = .ok (.aload_n 2, 1) := by decide +kernel
theorem dX5_obeys_152 : decode cX5_obeys 152 = .ok (.iconst 0, 1) := by decide +kernel
theorem dX5_obeys_153 : decode cX5_obeys 153 = .ok (.iaload, 1) := by decide +kernel
theorem dX5_obeys_154 : decode cX5_obeys 154 = .ok (.aload_n 2, 1) := by decide +kernel
theorem dX5_obeys_155 : decode cX5_obeys 155 = .ok (.iconst 1, 1) := by decide +kernel
theorem dX5_obeys_156 : decode cX5_obeys 156 = .ok (.iaload, 1) := by decide +kernel
theorem dX5_obeys_157 : decode cX5_obeys 157 = .ok (.invokevirtual 223, 3) := by decide +kernel
theorem dX5_obeys_160 : decode cX5_obeys 160 = .ok (.ireturn, 1) := by decide +kernel
theorem dX5_obeys_161 : decode cX5_obeys 161 = .ok (.iconst 0, 1) := by decide +kernel
theorem dX5_obeys_162 : decode cX5_obeys 162 = .ok (.ireturn, 1) := by decide +kernel
theorem dX6_beyond_0 : decode cX6_beyond 0 = .ok (.lconst 1, 1) := by decide +kernel
theorem dX6_beyond_1 : decode cX6_beyond 1 = .ok (.lstore_n 1, 1) := by decide +kernel
theorem dX6_beyond_2 : decode cX6_beyond 2 = .ok (.iconst 0, 1) := by decide +kernel
theorem dX6_beyond_3 : decode cX6_beyond 3 = .ok (.istore_n 3, 1) := by decide +kernel
theorem dX6_beyond_4 : decode cX6_beyond 4 = .ok (.iload_n 3, 1) := by decide +kernel
theorem dX6_beyond_5 : decode cX6_beyond 5 = .ok (.iload_n 0, 1) := by decide +kernel
theorem dX6_beyond_6 : decode cX6_beyond 6 = .ok (.if_icmp .ge 20, 3) := by decide +kernel
theorem dX6_beyond_9 : decode cX6_beyond 9 = .ok (.iload_n 3, 1) := by decide +kernel
theorem dX6_beyond_10 : decode cX6_beyond 10 = .ok (.iconst 3, 1) := by decide +kernel
theorem dX6_beyond_11 : decode cX6_beyond 11 = .ok (.if_icmp .ge 15, 3) := by decide +kernel
theorem dX6_beyond_14 : decode cX6_beyond 14 = .ok (.lload_n 1, 1) := by decide +kernel
theorem dX6_beyond_15 : decode cX6_beyond 15 = .ok (.ldc2_w 11, 3) := by decide +kernel
theorem dX6_beyond_18 : decode cX6_beyond 18 = .ok (.lmul, 1) := by decide +kernel
theorem dX6_beyond_19 : decode cX6_beyond 19 = .ok (.lstore_n 1, 1) := by decide +kernel
theorem dX6_beyond_20 : decode cX6_beyond 20 = .ok (.iinc 3 1, 3) := by decide +kernel
theorem dX6_beyond_23 : decode cX6_beyond 23 = .ok (.goto (-19), 3) := by decide +kernel
theorem dX6_beyond_26 : decode cX6_beyond 26 = .ok (.lload_n 1, 1) := by decide +kernel
theorem dX6_beyond_27 : decode cX6_beyond 27 = .ok (.lreturn, 1) := by decide +kernel
theorem dX6_group_0 : decode cX6_group 0 = .ok (.lload_n 0, 1) := by decide +kernel
theorem dX6_group_1 : decode cX6_group 1 = .ok (.lstore 4, 2) := by decide +kernel
theorem dX6_group_3 : decode cX6_group 3 = .ok (.iload_n 2, 1) := by decide +kernel
theorem dX6_group_4 : decode cX6_group 4 = .ok (.iconst 1, 1) := by decide +kernel
theorem dX6_group_5 : decode cX6_group 5 = .ok (.isub, 1) := by decide +kernel
theorem dX6_group_6 : decode cX6_group 6 = .ok (.istore 6, 2) := by decide +kernel
theorem dX6_group_8 : decode cX6_group 8 = .ok (.iload 6, 2) := by decide +kernel
theorem dX6_group_10 : decode cX6_group 10 = .ok (.iload_n 3, 1) := by decide +kernel
theorem dX6_group_11 : decode cX6_group 11 = .ok (.if_icmp .le 17, 3) := by decide +kernel
theorem dX6_group_14 : decode cX6_group 14 = .ok (.lload 4, 2) := by decide +kernel
theorem dX6_group_16 : decode cX6_group 16 = .ok (.ldc2_w 11, 3) := by decide +kernel
theorem dX6_group_19 : decode cX6_group 19 = .ok (.ldiv, 1) := by decide +kernel
theorem dX6_group_20 : decode cX6_group 20 = .ok (.lstore 4, 2) := by decide +kernel
theorem dX6_group_22 : decode cX6_group 22 = .ok (.iinc 6 (-1), 3) := by decide +kernel
theorem dX6_group_25 : decode cX6_group 25 = .ok (.goto (-17), 3) := by decide +kernel
theorem dX6_group_28 : decode cX6_group 28 = .ok (.lload 4, 2) := by decide +kernel
theorem dX6_group_30 : decode cX6_group 30 = .ok (.ldc2_w 11, 3) := by decide +kernel
theorem dX6_group_33 : decode cX6_group 33 = .ok (.lrem, 1) := by decide +kernel
theorem dX6_group_34 : decode cX6_group 34 = .ok (.l2i, 1) := by decide +kernel
theorem dX6_group_35 : decode cX6_group 35 = .ok (.ireturn, 1) := by decide +kernel
theorem dX6_succeeds_0 : decode cX6_succeeds 0 = .ok (.iload_n 1, 1) := by decide +kernel
theorem dX6_succeeds_1 : decode cX6_succeeds 1 = .ok (.ldc 13, 2) := by decide +kernel
theorem dX6_succeeds_3 : decode cX6_succeeds 3 = .ok (.idiv, 1) := by decide +kernel
theorem dX6_succeeds_4 : decode cX6_succeeds 4 = .ok (.istore_n 2, 1) := by decide +kernel
theorem dX6_succeeds_5 : decode cX6_succeeds 5 = .ok (.iload_n 1, 1) := by decide +kernel
theorem dX6_succeeds_6 : decode cX6_succeeds 6 = .ok (.sipush 10000, 3) := by decide +kernel
theorem dX6_succeeds_9 : decode cX6_succeeds 9 = .ok (.idiv, 1) := by decide +kernel
theorem dX6_succeeds_10 : decode cX6_succeeds 10 = .ok (.bipush 10, 2) := by decide +kernel
theorem dX6_succeeds_12 : decode cX6_succeeds 12 = .ok (.irem, 1) := by decide +kernel
theorem dX6_succeeds_13 : decode cX6_succeeds 13 = .ok (.istore_n 3, 1) := by decide +kernel
theorem dX6_succeeds_14 : decode cX6_succeeds 14 = .ok (.iload_n 1, 1) := by decide +kernel
theorem dX6_succeeds_15 : decode cX6_succeeds 15 = .ok (.sipush 1000, 3) := by decide +kernel
theorem dX6_succeeds_18 : decode cX6_succeeds 18 = .ok (.idiv, 1) := by decide +kernel
theorem dX6_succeeds_19 : decode cX6_succeeds 19 = .ok (.bipush 10, 2) := by decide +kernel
theorem dX6_succeeds_21 : decode cX6_succeeds 21 = .ok (.irem, 1) := by decide +kernel
theorem dX6_succeeds_22 : decode cX6_succeeds 22 = .ok (.istore 4, 2) := by decide +kernel
theorem dX6_succeeds_24 : decode cX6_succeeds 24 = .ok (.iload_n 1, 1) := by decide +kernel
theorem dX6_succeeds_25 : decode cX6_succeeds 25 = .ok (.bipush 10, 2) := by decide +kernel
theorem dX6_succeeds_27 : decode cX6_succeeds 27 = .ok (.idiv, 1) := by decide +kernel
theorem dX6_succeeds_28 : decode cX6_succeeds 28 = .ok (.bipush 10, 2) := by decide +kernel
theorem dX6_succeeds_30 : decode cX6_succeeds 30 = .ok (.irem, 1) := by decide +kernel
theorem dX6_succeeds_31 : decode cX6_succeeds 31 = .ok (.istore 5, 2) := by decide +kernel
theorem dX6_succeeds_33 : decode cX6_succeeds 33 = .ok (.iload_n 1, 1) := by decide +kernel
theorem dX6_succeeds_34 : decode cX6_succeeds 34 = .ok (.bipush 10, 2) := by decide +kernel
theorem dX6_succeeds_36 : decode cX6_succeeds 36 = .ok (.irem, 1) := by decide +kernel
theorem dX6_succeeds_37 : decode cX6_succeeds 37 = .ok (.istore 6, 2) := by decide +kernel
theorem dX6_succeeds_39 : decode cX6_succeeds 39 = .ok (.iload_n 2, 1) := by decide +kernel
theorem dX6_succeeds_40 : decode cX6_succeeds 40 = .ok (.tableswitch 312 1 9 #[52, 81, 111, 138, 165, 192, 219, 247, 279], 52) := by decide +kernel
theorem dX6_succeeds_92 : decode cX6_succeeds 92 = .ok (.iload 6, 2) := by decide +kernel
theorem dX6_succeeds_94 : decode cX6_succeeds 94 = .ok (.ifCond .ne 25, 3) := by decide +kernel
theorem dX6_succeeds_97 : decode cX6_succeeds 97 = .ok (.aload_n 0, 1) := by decide +kernel
theorem dX6_succeeds_98 : decode cX6_succeeds 98 = .ok (.iload_n 3, 1) := by decide +kernel
theorem dX6_succeeds_99 : decode cX6_succeeds 99 = .ok (.iload 4, 2) := by decide +kernel
theorem dX6_succeeds_101 : decode cX6_succeeds 101 = .ok (.iconst 1, 1) := by decide +kernel
theorem dX6_succeeds_102 : decode cX6_succeeds 102 = .ok (.iload_n 1, 1) := by decide +kernel
theorem dX6_succeeds_103 : decode cX6_succeeds 103 = .ok (.bipush 10, 2) := by decide +kernel
theorem dX6_succeeds_105 : decode cX6_succeeds 105 = .ok (.idiv, 1) := by decide +kernel
theorem dX6_succeeds_106 : decode cX6_succeeds 106 = .ok (.bipush 100, 2) := by decide +kernel
theorem dX6_succeeds_108 : decode cX6_succeeds 108 = .ok (.irem, 1) := by decide +kernel
theorem dX6_succeeds_109 : decode cX6_succeeds 109 = .ok (.invokevirtual 14, 3) := by decide +kernel
theorem dX6_succeeds_112 : decode cX6_succeeds 112 = .ok (.ifCond .eq 7, 3) := by decide +kernel
theorem dX6_succeeds_115 : decode cX6_succeeds 115 = .ok (.iconst 1, 1) := by decide +kernel
theorem dX6_succeeds_116 : decode cX6_succeeds 116 = .ok (.goto 4, 3) := by decide +kernel
theorem dX6_succeeds_119 : decode cX6_succeeds 119 = .ok (.iconst 0, 1) := by decide +kernel
theorem dX6_succeeds_120 : decode cX6_succeeds 120 = .ok (.ireturn, 1) := by decide +kernel
theorem dX6_succeeds_121 : decode cX6_succeeds 121 = .ok (.iload_n 1, 1) := by decide +kernel
theorem dX6_succeeds_122 : decode cX6_succeeds 122 = .ok (.bipush 100, 2) := by decide +kernel
theorem dX6_succeeds_124 : decode cX6_succeeds 124 = .ok (.irem, 1) := by decide +kernel
theorem dX6_succeeds_125 : decode cX6_succeeds 125 = .ok (.ifCond .ne 24, 3) := by decide +kernel
theorem dX6_succeeds_128 : decode cX6_succeeds 128 = .ok (.aload_n 0, 1) := by decide +kernel
theorem dX6_succeeds_129 : decode cX6_succeeds 129 = .ok (.iload_n 3, 1) := by decide +kernel
theorem dX6_succeeds_130 : decode cX6_succeeds 130 = .ok (.iconst 1, 1) := by decide +kernel
theorem dX6_succeeds_131 : decode cX6_succeeds 131 = .ok (.iload_n 1, 1) := by decide +kernel
theorem dX6_succeeds_132 : decode cX6_succeeds 132 = .ok (.bipush 100, 2) := by decide +kernel
theorem dX6_succeeds_134 : decode cX6_succeeds 134 = .ok (.idiv, 1) := by decide +kernel
theorem dX6_succeeds_135 : decode cX6_succeeds 135 = .ok (.bipush 100, 2) := by decide +kernel
theorem dX6_succeeds_137 : decode cX6_succeeds 137 = .ok (.irem, 1) := by decide +kernel
theorem dX6_succeeds_138 : decode cX6_succeeds 138 = .ok (.invokevirtual 20, 3) := by decide +kernel
theorem dX6_succeeds_141 : decode cX6_succeeds 141 = .ok (.iconst (-1), 1) := by decide +kernel
theorem dX6_succeeds_142 : decode cX6_succeeds 142 = .ok (.if_icmp .eq 7, 3) := by decide +kernel
theorem dX6_succeeds_145 : decode cX6_succeeds 145 = .ok (.iconst 1, 1) := by decide +kernel
theorem dX6_succeeds_146 : decode cX6_succeeds 146 = .ok (.goto 4, 3) := by decide +kernel
theorem dX6_succeeds_149 : decode cX6_succeeds 149 = .ok (.iconst 0, 1) := by decide +kernel
theorem dX6_succeeds_150 : decode cX6_succeeds 150 = .ok (.ireturn, 1) := by decide +kernel
theorem dX6_succeeds_151 : decode cX6_succeeds 151 = .ok (.iload_n 1, 1) := by decide +kernel
theorem dX6_succeeds_152 : decode cX6_succeeds 152 = .ok (.bipush 10, 2) := by decide +kernel
theorem dX6_succeeds_154 : decode cX6_succeeds 154 = .ok (.idiv, 1) := by decide +kernel
theorem dX6_succeeds_155 : decode cX6_succeeds 155 = .ok (.sipush 10000, 3) := by decide +kernel
theorem dX6_succeeds_158 : decode cX6_succeeds 158 = .ok (.irem, 1) := by decide +kernel
theorem dX6_succeeds_159 : decode cX6_succeeds 159 = .ok (.ifCond .ne 17, 3) := by decide +kernel
theorem dX6_succeeds_162 : decode cX6_succeeds 162 = .ok (.aload_n 0, 1) := by decide +kernel
theorem dX6_succeeds_163 : decode cX6_succeeds 163 = .ok (.iload 6, 2) := by decide +kernel
theorem dX6_succeeds_165 : decode cX6_succeeds 165 = .ok (.invokevirtual 24, 3) := by decide +kernel
theorem dX6_succeeds_168 : decode cX6_succeeds 168 = .ok (.iconst (-1), 1) := by decide +kernel
theorem dX6_succeeds_169 : decode cX6_succeeds 169 = .ok (.if_icmp .eq 7, 3) := by decide +kernel
theorem dX6_succeeds_172 : decode cX6_succeeds 172 = .ok (.iconst 1, 1) := by decide +kernel
theorem dX6_succeeds_173 : decode cX6_succeeds 173 = .ok (.goto 4, 3) := by decide +kernel
theorem dX6_succeeds_176 : decode cX6_succeeds 176 = .ok (.iconst 0, 1) := by decide +kernel
theorem dX6_succeeds_177 : decode cX6_succeeds 177 = .ok (.ireturn, 1) := by decide +kernel
theorem dX6_succeeds_178 : decode cX6_succeeds 178 = .ok (.iload_n 1, 1) := by decide +kernel
theorem dX6_succeeds_179 : decode cX6_succeeds 179 = .ok (.bipush 10, 2) := by decide +kernel
theorem dX6_succeeds_181 : decode cX6_succeeds 181 = .ok (.idiv, 1) := by decide +kernel
theorem dX6_succeeds_182 : decode cX6_succeeds 182 = .ok (.sipush 1000, 3) := by decide +kernel
theorem dX6_succeeds_185 : decode cX6_succeeds 185 = .ok (.irem, 1) := by decide +kernel
theorem dX6_succeeds_186 : decode cX6_succeeds 186 = .ok (.ifCond .ne 17, 3) := by decide +kernel
theorem dX6_succeeds_189 : decode cX6_succeeds 189 = .ok (.aload_n 0, 1) := by decide +kernel
theorem dX6_succeeds_190 : decode cX6_succeeds 190 = .ok (.iload_n 3, 1) := by decide +kernel
theorem dX6_succeeds_191 : decode cX6_succeeds 191 = .ok (.iload 6, 2) := by decide +kernel
theorem dX6_succeeds_193 : decode cX6_succeeds 193 = .ok (.invokevirtual 28, 3) := by decide +kernel
theorem dX6_succeeds_196 : decode cX6_succeeds 196 = .ok (.ifCond .eq 7, 3) := by decide +kernel
theorem dX6_succeeds_199 : decode cX6_succeeds 199 = .ok (.iconst 1, 1) := by decide +kernel
theorem dX6_succeeds_200 : decode cX6_succeeds 200 = .ok (.goto 4, 3) := by decide +kernel
theorem dX6_succeeds_203 : decode cX6_succeeds 203 = .ok (.iconst 0, 1) := by decide +kernel
theorem dX6_succeeds_204 : decode cX6_succeeds 204 = .ok (.ireturn, 1) := by decide +kernel
theorem dX6_succeeds_205 : decode cX6_succeeds 205 = .ok (.iload_n 1, 1) := by decide +kernel
theorem dX6_succeeds_206 : decode cX6_succeeds 206 = .ok (.bipush 10, 2) := by decide +kernel
theorem dX6_succeeds_208 : decode cX6_succeeds 208 = .ok (.idiv, 1) := by decide +kernel
theorem dX6_succeeds_209 : decode cX6_succeeds 209 = .ok (.sipush 1000, 3) := by decide +kernel
theorem dX6_succeeds_212 : decode cX6_succeeds 212 = .ok (.irem, 1) := by decide +kernel
theorem dX6_succeeds_213 : decode cX6_succeeds 213 = .ok (.ifCond .ne 17, 3) := by decide +kernel
theorem dX6_succeeds_216 : decode cX6_succeeds 216 = .ok (.aload_n 0, 1) := by decide +kernel
theorem dX6_succeeds_217 : decode cX6_succeeds 217 = .ok (.iload_n 3, 1) := by decide +kernel
theorem dX6_succeeds_218 : decode cX6_succeeds 218 = .ok (.iload 6, 2) := by decide +kernel
theorem dX6_succeeds_220 : decode cX6_succeeds 220 = .ok (.invokevirtual 32, 3) := by decide +kernel
theorem dX6_succeeds_223 : decode cX6_succeeds 223 = .ok (.ifCond .eq 7, 3) := by decide +kernel
theorem dX6_succeeds_226 : decode cX6_succeeds 226 = .ok (.iconst 1, 1) := by decide +kernel
theorem dX6_succeeds_227 : decode cX6_succeeds 227 = .ok (.goto 4, 3) := by decide +kernel
theorem dX6_succeeds_230 : decode cX6_succeeds 230 = .ok (.iconst 0, 1) := by decide +kernel
theorem dX6_succeeds_231 : decode cX6_succeeds 231 = .ok (.ireturn, 1) := by decide +kernel
theorem dX6_succeeds_232 : decode cX6_succeeds 232 = .ok (.iload_n 1, 1) := by decide +kernel
theorem dX6_succeeds_233 : decode cX6_succeeds 233 = .ok (.bipush 10, 2) := by decide +kernel
theorem dX6_succeeds_235 : decode cX6_succeeds 235 = .ok (.idiv, 1) := by decide +kernel
theorem dX6_succeeds_236 : decode cX6_succeeds 236 = .ok (.sipush 1000, 3) := by decide +kernel
theorem dX6_succeeds_239 : decode cX6_succeeds 239 = .ok (.irem, 1) := by decide +kernel
theorem dX6_succeeds_240 : decode cX6_succeeds 240 = .ok (.ifCond .ne 17, 3) := by decide +kernel
theorem dX6_succeeds_243 : decode cX6_succeeds 243 = .ok (.aload_n 0, 1) := by decide +kernel
theorem dX6_succeeds_244 : decode cX6_succeeds 244 = .ok (.iload_n 3, 1) := by decide +kernel
theorem dX6_succeeds_245 : decode cX6_succeeds 245 = .ok (.iload 6, 2) := by decide +kernel
theorem dX6_succeeds_247 : decode cX6_succeeds 247 = .ok (.invokestatic 35, 3) := by decide +kernel
theorem dX6_succeeds_250 : decode cX6_succeeds 250 = .ok (.ifCond .eq 7, 3) := by decide +kernel
theorem dX6_succeeds_253 : decode cX6_succeeds 253 = .ok (.iconst 1, 1) := by decide +kernel
theorem dX6_succeeds_254 : decode cX6_succeeds 254 = .ok (.goto 4, 3) := by decide +kernel
theorem dX6_succeeds_257 : decode cX6_succeeds 257 = .ok (.iconst 0, 1) := by decide +kernel
theorem dX6_succeeds_258 : decode cX6_succeeds 258 = .ok (.ireturn, 1) := by decide +kernel
theorem dX6_succeeds_259 : decode cX6_succeeds 259 = .ok (.iload 6, 2) := by decide +kernel
theorem dX6_succeeds_261 : decode cX6_succeeds 261 = .ok (.ifCond .ne 24, 3) := by decide +kernel
theorem dX6_succeeds_264 : decode cX6_succeeds 264 = .ok (.aload_n 0, 1) := by decide +kernel
theorem dX6_succeeds_265 : decode cX6_succeeds 265 = .ok (.iload_n 3, 1) := by decide +kernel
theorem dX6_succeeds_266 : decode cX6_succeeds 266 = .ok (.iload_n 1, 1) := by decide +kernel
theorem dX6_succeeds_267 : decode cX6_succeeds 267 = .ok (.bipush 100, 2) := by decide +kernel
theorem dX6_succeeds_269 : decode cX6_succeeds 269 = .ok (.idiv, 1) := by decide +kernel
theorem dX6_succeeds_270 : decode cX6_succeeds 270 = .ok (.bipush 100, 2) := by decide +kernel
theorem dX6_succeeds_272 : decode cX6_succeeds 272 = .ok (.irem, 1) := by decide +kernel
theorem dX6_succeeds_273 : decode cX6_succeeds 273 = .ok (.iload 5, 2) := by decide +kernel
theorem dX6_succeeds_275 : decode cX6_succeeds 275 = .ok (.invokestatic 39, 3) := by decide +kernel
theorem dX6_succeeds_278 : decode cX6_succeeds 278 = .ok (.ifCond .eq 7, 3) := by decide +kernel
theorem dX6_succeeds_281 : decode cX6_succeeds 281 = .ok (.iconst 1, 1) := by decide +kernel
theorem dX6_succeeds_282 : decode cX6_succeeds 282 = .ok (.goto 4, 3) := by decide +kernel
theorem dX6_succeeds_285 : decode cX6_succeeds 285 = .ok (.iconst 0, 1) := by decide +kernel
theorem dX6_succeeds_286 : decode cX6_succeeds 286 = .ok (.ireturn, 1) := by decide +kernel
theorem dX6_succeeds_287 : decode cX6_succeeds 287 = .ok (.iload_n 1, 1) := by decide +kernel
theorem dX6_succeeds_288 : decode cX6_succeeds 288 = .ok (.bipush 100, 2) := by decide +kernel
theorem dX6_succeeds_290 : decode cX6_succeeds 290 = .ok (.idiv, 1) := by decide +kernel
theorem dX6_succeeds_291 : decode cX6_succeeds 291 = .ok (.sipush 1000, 3) := by decide +kernel
theorem dX6_succeeds_294 : decode cX6_succeeds 294 = .ok (.irem, 1) := by decide +kernel
theorem dX6_succeeds_295 : decode cX6_succeeds 295 = .ok (.ifCond .ne 22, 3) := by decide +kernel
theorem dX6_succeeds_298 : decode cX6_succeeds 298 = .ok (.aload_n 0, 1) := by decide +kernel
theorem dX6_succeeds_299 : decode cX6_succeeds 299 = .ok (.getfield 43, 3) := by decide +kernel
theorem dX6_succeeds_302 : decode cX6_succeeds 302 = .ok (.iconst 1, 1) := by decide +kernel
theorem dX6_succeeds_303 : decode cX6_succeeds 303 = .ok (.invokevirtual 47, 3) := by decide +kernel
theorem dX6_succeeds_306 : decode cX6_succeeds 306 = .ok (.iload_n 1, 1) := by decide +kernel
theorem dX6_succeeds_307 : decode cX6_succeeds 307 = .ok (.bipush 100, 2) := by decide +kernel
theorem dX6_succeeds_309 : decode cX6_succeeds 309 = .ok (.irem, 1) := by decide +kernel
theorem dX6_succeeds_310 : decode cX6_succeeds 310 = .ok (.if_icmp .lt 7, 3) := by decide +kernel
theorem dX6_succeeds_313 : decode cX6_succeeds 313 = .ok (.iconst 1, 1) := by decide +kernel
theorem dX6_succeeds_314 : decode cX6_succeeds 314 = .ok (.goto 4, 3) := by decide +kernel
theorem dX6_succeeds_317 : decode cX6_succeeds 317 = .ok (.iconst 0, 1) := by decide +kernel
theorem dX6_succeeds_318 : decode cX6_succeeds 318 = .ok (.ireturn, 1) := by decide +kernel
theorem dX6_succeeds_319 : decode cX6_succeeds 319 = .ok (.iload_n 1, 1) := by decide +kernel
theorem dX6_succeeds_320 : decode cX6_succeeds 320 = .ok (.bipush 10, 2) := by decide +kernel
theorem dX6_succeeds_322 : decode cX6_succeeds 322 = .ok (.idiv, 1) := by decide +kernel
theorem dX6_succeeds_323 : decode cX6_succeeds 323 = .ok (.bipush 100, 2) := by decide +kernel
theorem dX6_succeeds_325 : decode cX6_succeeds 325 = .ok (.irem, 1) := by decide +kernel
theorem dX6_succeeds_326 : decode cX6_succeeds 326 = .ok (.ifCond .ne 24, 3) := by decide +kernel
theorem dX6_succeeds_329 : decode cX6_succeeds 329 = .ok (.aload_n 0, 1) := by decide +kernel
theorem dX6_succeeds_330 : decode cX6_succeeds 330 = .ok (.iload_n 1, 1) := by decide +kernel
theorem dX6_succeeds_331 : decode cX6_succeeds 331 = .ok (.sipush 1000, 3) := by decide +kernel
theorem dX6_succeeds_334 : decode cX6_succeeds 334 = .ok (.idiv, 1) := by decide +kernel
theorem dX6_succeeds_335 : decode cX6_succeeds 335 = .ok (.bipush 100, 2) := by decide +kernel
theorem dX6_succeeds_337 : decode cX6_succeeds 337 = .ok (.irem, 1) := by decide +kernel
theorem dX6_succeeds_338 : decode cX6_succeeds 338 = .ok (.iload 6, 2) := by decide +kernel
theorem dX6_succeeds_340 : decode cX6_succeeds 340 = .ok (.invokestatic 52, 3) := by decide +kernel
theorem dX6_succeeds_343 : decode cX6_succeeds 343 = .ok (.ifCond .eq 7, 3) := by decide +kernel
theorem dX6_succeeds_346 : decode cX6_succeeds 346 = .ok (.iconst 1, 1) := by decide +kernel
theorem dX6_succeeds_347 : decode cX6_succeeds 347 = .ok (.goto 4, 3) := by decide +kernel
theorem dX6_succeeds_350 : decode cX6_succeeds 350 = .ok (.iconst 0, 1) := by decide +kernel
theorem dX6_succeeds_351 : decode cX6_succeeds 351 = .ok (.ireturn, 1) := by decide +kernel
theorem dX6_succeeds_352 : decode cX6_succeeds 352 = .ok (.iconst 0, 1) := by decide +kernel
theorem dX6_succeeds_353 : decode cX6_succeeds 353 = .ok (.ireturn, 1) := by decide +kernel
theorem dX6_hasNames_0 : decode cX6_hasNames 0 = .ok (.aload_n 0, 1) := by decide +kernel
theorem dX6_hasNames_1 : decode cX6_hasNames 1 = .ok (.getfield 55, 3) := by decide +kernel
theorem dX6_hasNames_4 : decode cX6_hasNames 4 = .ok (.iload_n 1, 1) := by decide +kernel
theorem dX6_hasNames_5 : decode cX6_hasNames 5 = .ok (.invokevirtual 59, 3) := by decide +kernel
theorem dX6_hasNames_8 : decode cX6_hasNames 8 = .ok (.ifCond .eq 19, 3) := by decide +kernel
theorem dX6_hasNames_11 : decode cX6_hasNames 11 = .ok (.aload_n 0, 1) := by decide +kernel
theorem dX6_hasNames_12 : decode cX6_hasNames 12 = .ok (.getfield 43, 3) := by decide +kernel
theorem dX6_hasNames_15 : decode cX6_hasNames 15 = .ok (.iload_n 1, 1) := by decide +kernel
theorem dX6_hasNames_16 : decode cX6_hasNames 16 = .ok (.invokevirtual 65, 3) := by decide +kernel
theorem dX6_hasNames_19 : decode cX6_hasNames 19 = .ok (.iload_n 2, 1) := by decide +kernel
theorem dX6_hasNames_20 : decode cX6_hasNames 20 = .ok (.if_icmp .lt 7, 3) := by decide +kernel
theorem dX6_hasNames_23 : decode cX6_hasNames 23 = .ok (.iconst 1, 1) := by decide +kernel
theorem dX6_hasNames_24 : decode cX6_hasNames 24 = .ok (.goto 4, 3) := by decide +kernel
theorem dX6_hasNames_27 : decode cX6_hasNames 27 = .ok (.iconst 0, 1) := by decide +kernel
theorem dX6_hasNames_28 : decode cX6_hasNames 28 = .ok (.ireturn, 1) := by decide +kernel
theorem dX6_means_0 : decode cX6_means 0 = .ok (.iload_n 1, 1) := by decide +kernel
theorem dX6_means_1 : decode cX6_means 1 = .ok (.invokestatic 68, 3) := by decide +kernel
theorem dX6_means_4 : decode cX6_means 4 = .ok (.ifCond .eq 37, 3) := by decide +kernel
theorem dX6_means_7 : decode cX6_means 7 = .ok (.iconst 1, 1) := by decide +kernel
theorem dX6_means_8 : decode cX6_means 8 = .ok (.iload_n 2, 1) := by decide +kernel
theorem dX6_means_9 : decode cX6_means 9 = .ok (.invokestatic 71, 3) := by decide +kernel
theorem dX6_means_12 : decode cX6_means 12 = .ok (.ifCond .eq 29, 3) := by decide +kernel
theorem dX6_means_15 : decode cX6_means 15 = .ok (.aload_n 0, 1) := by decide +kernel
theorem dX6_means_16 : decode cX6_means 16 = .ok (.getfield 55, 3) := by decide +kernel
theorem dX6_means_19 : decode cX6_means 19 = .ok (.iload_n 3, 1) := by decide +kernel
theorem dX6_means_20 : decode cX6_means 20 = .ok (.invokevirtual 59, 3) := by decide +kernel
theorem dX6_means_23 : decode cX6_means 23 = .ok (.ifCond .eq 18, 3) := by decide +kernel
theorem dX6_means_26 : decode cX6_means 26 = .ok (.aload_n 0, 1) := by decide +kernel
theorem dX6_means_27 : decode cX6_means 27 = .ok (.iload_n 1, 1) := by decide +kernel
theorem dX6_means_28 : decode cX6_means 28 = .ok (.iconst 1, 1) := by decide +kernel
theorem dX6_means_29 : decode cX6_means 29 = .ok (.iload_n 2, 1) := by decide +kernel
theorem dX6_means_30 : decode cX6_means 30 = .ok (.invokevirtual 76, 3) := by decide +kernel
theorem dX6_means_33 : decode cX6_means 33 = .ok (.iload_n 3, 1) := by decide +kernel
theorem dX6_means_34 : decode cX6_means 34 = .ok (.if_icmp .ne 7, 3) := by decide +kernel
theorem dX6_means_37 : decode cX6_means 37 = .ok (.iconst 1, 1) := by decide +kernel
theorem dX6_means_38 : decode cX6_means 38 = .ok (.goto 4, 3) := by decide +kernel
theorem dX6_means_41 : decode cX6_means 41 = .ok (.iconst 0, 1) := by decide +kernel
theorem dX6_means_42 : decode cX6_means 42 = .ok (.ireturn, 1) := by decide +kernel
theorem dX6_isInState_0 : decode cX6_isInState 0 = .ok (.aload_n 0, 1) := by decide +kernel
theorem dX6_isInState_1 : decode cX6_isInState 1 = .ok (.getfield 43, 3) := by decide +kernel
theorem dX6_isInState_4 : decode cX6_isInState 4 = .ok (.iload_n 1, 1) := by decide +kernel
theorem dX6_isInState_5 : decode cX6_isInState 5 = .ok (.invokevirtual 79, 3) := by decide +kernel
theorem dX6_isInState_8 : decode cX6_isInState 8 = .ok (.ifCond .eq 20, 3) := by decide +kernel
theorem dX6_isInState_11 : decode cX6_isInState 11 = .ok (.aload_n 0, 1) := by decide +kernel
theorem dX6_isInState_12 : decode cX6_isInState 12 = .ok (.getfield 43, 3) := by decide +kernel
theorem dX6_isInState_15 : decode cX6_isInState 15 = .ok (.getfield 80, 3) := by decide +kernel
theorem dX6_isInState_18 : decode cX6_isInState 18 = .ok (.iload_n 1, 1) := by decide +kernel
theorem dX6_isInState_19 : decode cX6_isInState 19 = .ok (.iaload, 1) := by decide +kernel
theorem dX6_isInState_20 : decode cX6_isInState 20 = .ok (.iload_n 2, 1) := by decide +kernel
theorem dX6_isInState_21 : decode cX6_isInState 21 = .ok (.if_icmp .ne 7, 3) := by decide +kernel
theorem dX6_isInState_24 : decode cX6_isInState 24 = .ok (.iconst 1, 1) := by decide +kernel
theorem dX6_isInState_25 : decode cX6_isInState 25 = .ok (.goto 4, 3) := by decide +kernel
theorem dX6_isInState_28 : decode cX6_isInState 28 = .ok (.iconst 0, 1) := by decide +kernel
theorem dX6_isInState_29 : decode cX6_isInState 29 = .ok (.ireturn, 1) := by decide +kernel
theorem dX7_takeTurn_0 : decode cX7_takeTurn 0 = .ok (.iload_n 1, 1) := by decide +kernel
theorem dX7_takeTurn_1 : decode cX7_takeTurn 1 = .ok (.bipush 16, 2) := by decide +kernel
theorem dX7_takeTurn_3 : decode cX7_takeTurn 3 = .ok (.idiv, 1) := by decide +kernel
theorem dX7_takeTurn_4 : decode cX7_takeTurn 4 = .ok (.istore_n 2, 1) := by decide +kernel
theorem dX7_takeTurn_5 : decode cX7_takeTurn 5 = .ok (.iload_n 1, 1) := by decide +kernel
theorem dX7_takeTurn_6 : decode cX7_takeTurn 6 = .ok (.bipush 16, 2) := by decide +kernel
theorem dX7_takeTurn_8 : decode cX7_takeTurn 8 = .ok (.irem, 1) := by decide +kernel
theorem dX7_takeTurn_9 : decode cX7_takeTurn 9 = .ok (.tableswitch 179 0 13 #[71, 71, 97, 97, 97, 97, 125, 125, 125, 125, 125, 125, 143, 161], 71) := by decide +kernel
theorem dX7_takeTurn_80 : decode cX7_takeTurn 80 = .ok (.aload_n 0, 1) := by decide +kernel
theorem dX7_takeTurn_81 : decode cX7_takeTurn 81 = .ok (.iload_n 2, 1) := by decide +kernel
theorem dX7_takeTurn_82 : decode cX7_takeTurn 82 = .ok (.bipush 60, 2) := by decide +kernel
theorem dX7_takeTurn_84 : decode cX7_takeTurn 84 = .ok (.irem, 1) := by decide +kernel
theorem dX7_takeTurn_85 : decode cX7_takeTurn 85 = .ok (.iload_n 2, 1) := by decide +kernel
theorem dX7_takeTurn_86 : decode cX7_takeTurn 86 = .ok (.bipush 64, 2) := by decide +kernel
theorem dX7_takeTurn_88 : decode cX7_takeTurn 88 = .ok (.idiv, 1) := by decide +kernel
theorem dX7_takeTurn_89 : decode cX7_takeTurn 89 = .ok (.bipush 6, 2) := by decide +kernel
theorem dX7_takeTurn_91 : decode cX7_takeTurn 91 = .ok (.irem, 1) := by decide +kernel
theorem dX7_takeTurn_92 : decode cX7_takeTurn 92 = .ok (.iload_n 2, 1) := by decide +kernel
theorem dX7_takeTurn_93 : decode cX7_takeTurn 93 = .ok (.sipush 512, 3) := by decide +kernel
theorem dX7_takeTurn_96 : decode cX7_takeTurn 96 = .ok (.idiv, 1) := by decide +kernel
theorem dX7_takeTurn_97 : decode cX7_takeTurn 97 = .ok (.iconst 4, 1) := by decide +kernel
theorem dX7_takeTurn_98 : decode cX7_takeTurn 98 = .ok (.irem, 1) := by decide +kernel
theorem dX7_takeTurn_99 : decode cX7_takeTurn 99 = .ok (.invokevirtual 7, 3) := by decide +kernel
theorem dX7_takeTurn_102 : decode cX7_takeTurn 102 = .ok (.pop, 1) := by decide +kernel
theorem dX7_takeTurn_103 : decode cX7_takeTurn 103 = .ok (.goto 95, 3) := by decide +kernel
theorem dX7_takeTurn_106 : decode cX7_takeTurn 106 = .ok (.aload_n 0, 1) := by decide +kernel
theorem dX7_takeTurn_107 : decode cX7_takeTurn 107 = .ok (.iload_n 2, 1) := by decide +kernel
theorem dX7_takeTurn_108 : decode cX7_takeTurn 108 = .ok (.bipush 12, 2) := by decide +kernel
theorem dX7_takeTurn_110 : decode cX7_takeTurn 110 = .ok (.irem, 1) := by decide +kernel
theorem dX7_takeTurn_111 : decode cX7_takeTurn 111 = .ok (.iload_n 2, 1) := by decide +kernel
theorem dX7_takeTurn_112 : decode cX7_takeTurn 112 = .ok (.bipush 16, 2) := by decide +kernel
theorem dX7_takeTurn_114 : decode cX7_takeTurn 114 = .ok (.idiv, 1) := by decide +kernel
theorem dX7_takeTurn_115 : decode cX7_takeTurn 115 = .ok (.bipush 12, 2) := by decide +kernel
theorem dX7_takeTurn_117 : decode cX7_takeTurn 117 = .ok (.irem, 1) := by decide +kernel
theorem dX7_takeTurn_118 : decode cX7_takeTurn 118 = .ok (.iconst 1, 1) := by decide +kernel
theorem dX7_takeTurn_119 : decode cX7_takeTurn 119 = .ok (.iload_n 2, 1) := by decide +kernel
theorem dX7_takeTurn_120 : decode cX7_takeTurn 120 = .ok (.sipush 256, 3) := by decide +kernel
theorem dX7_takeTurn_123 : decode cX7_takeTurn 123 = .ok (.idiv, 1) := by decide +kernel
theorem dX7_takeTurn_124 : decode cX7_takeTurn 124 = .ok (.bipush 8, 2) := by decide +kernel
theorem dX7_takeTurn_126 : decode cX7_takeTurn 126 = .ok (.irem, 1) := by decide +kernel
theorem dX7_takeTurn_127 : decode cX7_takeTurn 127 = .ok (.invokevirtual 13, 3) := by decide +kernel
theorem dX7_takeTurn_130 : decode cX7_takeTurn 130 = .ok (.pop, 1) := by decide +kernel
theorem dX7_takeTurn_131 : decode cX7_takeTurn 131 = .ok (.goto 67, 3) := by decide +kernel
theorem dX7_takeTurn_134 : decode cX7_takeTurn 134 = .ok (.aload_n 0, 1) := by decide +kernel
theorem dX7_takeTurn_135 : decode cX7_takeTurn 135 = .ok (.iload_n 2, 1) := by decide +kernel
theorem dX7_takeTurn_136 : decode cX7_takeTurn 136 = .ok (.iconst 4, 1) := by decide +kernel
theorem dX7_takeTurn_137 : decode cX7_takeTurn 137 = .ok (.irem, 1) := by decide +kernel
theorem dX7_takeTurn_138 : decode cX7_takeTurn 138 = .ok (.iconst 1, 1) := by decide +kernel
theorem dX7_takeTurn_139 : decode cX7_takeTurn 139 = .ok (.iload_n 2, 1) := by decide +kernel
theorem dX7_takeTurn_140 : decode cX7_takeTurn 140 = .ok (.iconst 4, 1) := by decide +kernel
theorem dX7_takeTurn_141 : decode cX7_takeTurn 141 = .ok (.idiv, 1) := by decide +kernel
theorem dX7_takeTurn_142 : decode cX7_takeTurn 142 = .ok (.bipush 8, 2) := by decide +kernel
theorem dX7_takeTurn_144 : decode cX7_takeTurn 144 = .ok (.irem, 1) := by decide +kernel
theorem dX7_takeTurn_145 : decode cX7_takeTurn 145 = .ok (.invokevirtual 17, 3) := by decide +kernel
theorem dX7_takeTurn_148 : decode cX7_takeTurn 148 = .ok (.pop, 1) := by decide +kernel
theorem dX7_takeTurn_149 : decode cX7_takeTurn 149 = .ok (.goto 49, 3) := by decide +kernel
theorem dX7_takeTurn_152 : decode cX7_takeTurn 152 = .ok (.aload_n 0, 1) := by decide +kernel
theorem dX7_takeTurn_153 : decode cX7_takeTurn 153 = .ok (.iload_n 2, 1) := by decide +kernel
theorem dX7_takeTurn_154 : decode cX7_takeTurn 154 = .ok (.bipush 12, 2) := by decide +kernel
theorem dX7_takeTurn_156 : decode cX7_takeTurn 156 = .ok (.irem, 1) := by decide +kernel
theorem dX7_takeTurn_157 : decode cX7_takeTurn 157 = .ok (.iload_n 2, 1) := by decide +kernel
theorem dX7_takeTurn_158 : decode cX7_takeTurn 158 = .ok (.bipush 16, 2) := by decide +kernel
theorem dX7_takeTurn_160 : decode cX7_takeTurn 160 = .ok (.idiv, 1) := by decide +kernel
theorem dX7_takeTurn_161 : decode cX7_takeTurn 161 = .ok (.iconst 4, 1) := by decide +kernel
theorem dX7_takeTurn_162 : decode cX7_takeTurn 162 = .ok (.irem, 1) := by decide +kernel
theorem dX7_takeTurn_163 : decode cX7_takeTurn 163 = .ok (.invokevirtual 21, 3) := by decide +kernel
theorem dX7_takeTurn_166 : decode cX7_takeTurn 166 = .ok (.pop, 1) := by decide +kernel
theorem dX7_takeTurn_167 : decode cX7_takeTurn 167 = .ok (.goto 31, 3) := by decide +kernel
theorem dX7_takeTurn_170 : decode cX7_takeTurn 170 = .ok (.aload_n 0, 1) := by decide +kernel
theorem dX7_takeTurn_171 : decode cX7_takeTurn 171 = .ok (.iload_n 2, 1) := by decide +kernel
theorem dX7_takeTurn_172 : decode cX7_takeTurn 172 = .ok (.iconst 3, 1) := by decide +kernel
theorem dX7_takeTurn_173 : decode cX7_takeTurn 173 = .ok (.irem, 1) := by decide +kernel
theorem dX7_takeTurn_174 : decode cX7_takeTurn 174 = .ok (.iconst 1, 1) := by decide +kernel
theorem dX7_takeTurn_175 : decode cX7_takeTurn 175 = .ok (.iload_n 2, 1) := by decide +kernel
theorem dX7_takeTurn_176 : decode cX7_takeTurn 176 = .ok (.iconst 4, 1) := by decide +kernel
theorem dX7_takeTurn_177 : decode cX7_takeTurn 177 = .ok (.idiv, 1) := by decide +kernel
theorem dX7_takeTurn_178 : decode cX7_takeTurn 178 = .ok (.iconst 4, 1) := by decide +kernel
theorem dX7_takeTurn_179 : decode cX7_takeTurn 179 = .ok (.irem, 1) := by decide +kernel
theorem dX7_takeTurn_180 : decode cX7_takeTurn 180 = .ok (.iadd, 1) := by decide +kernel
theorem dX7_takeTurn_181 : decode cX7_takeTurn 181 = .ok (.invokevirtual 25, 3) := by decide +kernel
theorem dX7_takeTurn_184 : decode cX7_takeTurn 184 = .ok (.pop, 1) := by decide +kernel
theorem dX7_takeTurn_185 : decode cX7_takeTurn 185 = .ok (.goto 13, 3) := by decide +kernel
theorem dX7_takeTurn_188 : decode cX7_takeTurn 188 = .ok (.aload_n 0, 1) := by decide +kernel
theorem dX7_takeTurn_189 : decode cX7_takeTurn 189 = .ok (.iconst 1, 1) := by decide +kernel
theorem dX7_takeTurn_190 : decode cX7_takeTurn 190 = .ok (.iload_n 2, 1) := by decide +kernel
theorem dX7_takeTurn_191 : decode cX7_takeTurn 191 = .ok (.iconst 2, 1) := by decide +kernel
theorem dX7_takeTurn_192 : decode cX7_takeTurn 192 = .ok (.irem, 1) := by decide +kernel
theorem dX7_takeTurn_193 : decode cX7_takeTurn 193 = .ok (.iadd, 1) := by decide +kernel
theorem dX7_takeTurn_194 : decode cX7_takeTurn 194 = .ok (.invokevirtual 28, 3) := by decide +kernel
theorem dX7_takeTurn_197 : decode cX7_takeTurn 197 = .ok (.pop, 1) := by decide +kernel
theorem dX7_takeTurn_198 : decode cX7_takeTurn 198 = .ok (.return_, 1) := by decide +kernel
theorem dX8_init_0 : decode cX8_init 0 = .ok (.aload_n 0, 1) := by decide +kernel
theorem dX8_init_1 : decode cX8_init 1 = .ok (.invokespecial 3, 3) := by decide +kernel
theorem dX8_init_4 : decode cX8_init 4 = .ok (.aload_n 0, 1) := by decide +kernel
theorem dX8_init_5 : decode cX8_init 5 = .ok (.iconst 2, 1) := by decide +kernel
theorem dX8_init_6 : decode cX8_init 6 = .ok (.anewarray 9, 3) := by decide +kernel
theorem dX8_init_9 : decode cX8_init 9 = .ok (.putfield 11, 3) := by decide +kernel
theorem dX8_init_12 : decode cX8_init 12 = .ok (.aload_n 0, 1) := by decide +kernel
theorem dX8_init_13 : decode cX8_init 13 = .ok (.iconst 2, 1) := by decide +kernel
theorem dX8_init_14 : decode cX8_init 14 = .ok (.newarray .boolean, 2) := by decide +kernel
theorem dX8_init_16 : decode cX8_init 16 = .ok (.putfield 17, 3) := by decide +kernel
theorem dX8_init_19 : decode cX8_init 19 = .ok (.iconst 0, 1) := by decide +kernel
theorem dX8_init_20 : decode cX8_init 20 = .ok (.istore_n 1, 1) := by decide +kernel
theorem dX8_init_21 : decode cX8_init 21 = .ok (.iload_n 1, 1) := by decide +kernel
theorem dX8_init_22 : decode cX8_init 22 = .ok (.iconst 2, 1) := by decide +kernel
theorem dX8_init_23 : decode cX8_init 23 = .ok (.if_icmp .ge 22, 3) := by decide +kernel
theorem dX8_init_26 : decode cX8_init 26 = .ok (.aload_n 0, 1) := by decide +kernel
theorem dX8_init_27 : decode cX8_init 27 = .ok (.getfield 11, 3) := by decide +kernel
theorem dX8_init_30 : decode cX8_init 30 = .ok (.iload_n 1, 1) := by decide +kernel
theorem dX8_init_31 : decode cX8_init 31 = .ok (.new 9, 3) := by decide +kernel
theorem dX8_init_34 : decode cX8_init 34 = .ok (.dup, 1) := by decide +kernel
theorem dX8_init_35 : decode cX8_init 35 = .ok (.invokespecial 21, 3) := by decide +kernel
theorem dX8_init_38 : decode cX8_init 38 = .ok (.aastore, 1) := by decide +kernel
theorem dX8_init_39 : decode cX8_init 39 = .ok (.iinc 1 1, 3) := by decide +kernel
theorem dX8_init_42 : decode cX8_init 42 = .ok (.goto (-21), 3) := by decide +kernel
theorem dX8_init_45 : decode cX8_init 45 = .ok (.return_, 1) := by decide +kernel
theorem dX8_forgetAll_0 : decode cX8_forgetAll 0 = .ok (.iconst 0, 1) := by decide +kernel
theorem dX8_forgetAll_1 : decode cX8_forgetAll 1 = .ok (.istore_n 1, 1) := by decide +kernel
theorem dX8_forgetAll_2 : decode cX8_forgetAll 2 = .ok (.iload_n 1, 1) := by decide +kernel
theorem dX8_forgetAll_3 : decode cX8_forgetAll 3 = .ok (.iconst 2, 1) := by decide +kernel
theorem dX8_forgetAll_4 : decode cX8_forgetAll 4 = .ok (.if_icmp .ge 16, 3) := by decide +kernel
theorem dX8_forgetAll_7 : decode cX8_forgetAll 7 = .ok (.aload_n 0, 1) := by decide +kernel
theorem dX8_forgetAll_8 : decode cX8_forgetAll 8 = .ok (.getfield 17, 3) := by decide +kernel
theorem dX8_forgetAll_11 : decode cX8_forgetAll 11 = .ok (.iload_n 1, 1) := by decide +kernel
theorem dX8_forgetAll_12 : decode cX8_forgetAll 12 = .ok (.iconst 0, 1) := by decide +kernel
theorem dX8_forgetAll_13 : decode cX8_forgetAll 13 = .ok (.bastore, 1) := by decide +kernel
theorem dX8_forgetAll_14 : decode cX8_forgetAll 14 = .ok (.iinc 1 1, 3) := by decide +kernel
theorem dX8_forgetAll_17 : decode cX8_forgetAll 17 = .ok (.goto (-15), 3) := by decide +kernel
theorem dX8_forgetAll_20 : decode cX8_forgetAll 20 = .ok (.return_, 1) := by decide +kernel
theorem dX9_init_0 : decode cX9_init 0 = .ok (.aload_n 0, 1) := by decide +kernel
theorem dX9_init_1 : decode cX9_init 1 = .ok (.invokespecial 3, 3) := by decide +kernel
theorem dX9_init_4 : decode cX9_init 4 = .ok (.aload_n 0, 1) := by decide +kernel
theorem dX9_init_5 : decode cX9_init 5 = .ok (.bipush 120, 2) := by decide +kernel
theorem dX9_init_7 : decode cX9_init 7 = .ok (.newarray .char, 2) := by decide +kernel
theorem dX9_init_9 : decode cX9_init 9 = .ok (.putfield 9, 3) := by decide +kernel
theorem dX9_init_12 : decode cX9_init 12 = .ok (.aload_n 0, 1) := by decide +kernel
theorem dX9_init_13 : decode cX9_init 13 = .ok (.iconst 0, 1) := by decide +kernel
theorem dX9_init_14 : decode cX9_init 14 = .ok (.putfield 15, 3) := by decide +kernel
theorem dX9_init_17 : decode cX9_init 17 = .ok (.aload_n 0, 1) := by decide +kernel
theorem dX9_init_18 : decode cX9_init 18 = .ok (.iconst 0, 1) := by decide +kernel
theorem dX9_init_19 : decode cX9_init 19 = .ok (.putfield 19, 3) := by decide +kernel
theorem dX9_init_22 : decode cX9_init 22 = .ok (.aload_n 0, 1) := by decide +kernel
theorem dX9_init_23 : decode cX9_init 23 = .ok (.iconst (-1), 1) := by decide +kernel
theorem dX9_init_24 : decode cX9_init 24 = .ok (.putfield 22, 3) := by decide +kernel
theorem dX9_init_27 : decode cX9_init 27 = .ok (.aload_n 0, 1) := by decide +kernel
theorem dX9_init_28 : decode cX9_init 28 = .ok (.iconst 4, 1) := by decide +kernel
theorem dX9_init_29 : decode cX9_init 29 = .ok (.newarray .int, 2) := by decide +kernel
theorem dX9_init_31 : decode cX9_init 31 = .ok (.putfield 25, 3) := by decide +kernel
theorem dX9_init_34 : decode cX9_init 34 = .ok (.aload_n 0, 1) := by decide +kernel
theorem dX9_init_35 : decode cX9_init 35 = .ok (.iconst 0, 1) := by decide +kernel
theorem dX9_init_36 : decode cX9_init 36 = .ok (.putfield 29, 3) := by decide +kernel
theorem dX9_init_39 : decode cX9_init 39 = .ok (.return_, 1) := by decide +kernel
theorem dX9_put_0 : decode cX9_put 0 = .ok (.aload_n 0, 1) := by decide +kernel
theorem dX9_put_1 : decode cX9_put 1 = .ok (.getfield 15, 3) := by decide +kernel
theorem dX9_put_4 : decode cX9_put 4 = .ok (.bipush 120, 2) := by decide +kernel
theorem dX9_put_6 : decode cX9_put 6 = .ok (.if_icmp .ge 23, 3) := by decide +kernel
theorem dX9_put_9 : decode cX9_put 9 = .ok (.aload_n 0, 1) := by decide +kernel
theorem dX9_put_10 : decode cX9_put 10 = .ok (.getfield 9, 3) := by decide +kernel
theorem dX9_put_13 : decode cX9_put 13 = .ok (.aload_n 0, 1) := by decide +kernel
theorem dX9_put_14 : decode cX9_put 14 = .ok (.getfield 15, 3) := by decide +kernel
theorem dX9_put_17 : decode cX9_put 17 = .ok (.iload_n 1, 1) := by decide +kernel
theorem dX9_put_18 : decode cX9_put 18 = .ok (.castore, 1) := by decide +kernel
theorem dX9_put_19 : decode cX9_put 19 = .ok (.aload_n 0, 1) := by decide +kernel
theorem dX9_put_20 : decode cX9_put 20 = .ok (.dup, 1) := by decide +kernel
theorem dX9_put_21 : decode cX9_put 21 = .ok (.getfield 15, 3) := by decide +kernel
theorem dX9_put_24 : decode cX9_put 24 = .ok (.iconst 1, 1) := by decide +kernel
theorem dX9_put_25 : decode cX9_put 25 = .ok (.iadd, 1) := by decide +kernel
theorem dX9_put_26 : decode cX9_put 26 = .ok (.putfield 15, 3) := by decide +kernel
theorem dX9_put_29 : decode cX9_put 29 = .ok (.return_, 1) := by decide +kernel
theorem dX9_firstError_0 : decode cX9_firstError 0 = .ok (.aload_n 0, 1) := by decide +kernel
theorem dX9_firstError_1 : decode cX9_firstError 1 = .ok (.invokevirtual 32, 3) := by decide +kernel
theorem dX9_firstError_4 : decode cX9_firstError 4 = .ok (.ifCond .ne 8, 3) := by decide +kernel
theorem dX9_firstError_7 : decode cX9_firstError 7 = .ok (.aload_n 0, 1) := by decide +kernel
theorem dX9_firstError_8 : decode cX9_firstError 8 = .ok (.getfield 19, 3) := by decide +kernel
theorem dX9_firstError_11 : decode cX9_firstError 11 = .ok (.ireturn, 1) := by decide +kernel
theorem dX9_firstError_12 : decode cX9_firstError 12 = .ok (.iconst 0, 1) := by decide +kernel
theorem dX9_firstError_13 : decode cX9_firstError 13 = .ok (.istore_n 1, 1) := by decide +kernel
theorem dX9_firstError_14 : decode cX9_firstError 14 = .ok (.iload_n 1, 1) := by decide +kernel
theorem dX9_firstError_15 : decode cX9_firstError 15 = .ok (.bipush 120, 2) := by decide +kernel
theorem dX9_firstError_17 : decode cX9_firstError 17 = .ok (.if_icmp .ge 32, 3) := by decide +kernel
theorem dX9_firstError_20 : decode cX9_firstError 20 = .ok (.aload_n 0, 1) := by decide +kernel
theorem dX9_firstError_21 : decode cX9_firstError 21 = .ok (.getfield 19, 3) := by decide +kernel
theorem dX9_firstError_24 : decode cX9_firstError 24 = .ok (.aload_n 0, 1) := by decide +kernel
theorem dX9_firstError_25 : decode cX9_firstError 25 = .ok (.getfield 15, 3) := by decide +kernel
theorem dX9_firstError_28 : decode cX9_firstError 28 = .ok (.if_icmp .ge 21, 3) := by decide +kernel
theorem dX9_firstError_31 : decode cX9_firstError 31 = .ok (.aload_n 0, 1) := by decide +kernel
theorem dX9_firstError_32 : decode cX9_firstError 32 = .ok (.invokevirtual 36, 3) := by decide +kernel
theorem dX9_firstError_35 : decode cX9_firstError 35 = .ok (.ifCond .ne 8, 3) := by decide +kernel
theorem dX9_firstError_38 : decode cX9_firstError 38 = .ok (.aload_n 0, 1) := by decide +kernel
theorem dX9_firstError_39 : decode cX9_firstError 39 = .ok (.getfield 19, 3) := by decide +kernel
theorem dX9_firstError_42 : decode cX9_firstError 42 = .ok (.ireturn, 1) := by decide +kernel
theorem dX9_firstError_43 : decode cX9_firstError 43 = .ok (.iinc 1 1, 3) := by decide +kernel
theorem dX9_firstError_46 : decode cX9_firstError 46 = .ok (.goto (-32), 3) := by decide +kernel
theorem dX9_firstError_49 : decode cX9_firstError 49 = .ok (.iconst (-1), 1) := by decide +kernel
theorem dX9_firstError_50 : decode cX9_firstError 50 = .ok (.ireturn, 1) := by decide +kernel
theorem dX9_readHead_0 : decode cX9_readHead 0 = .ok (.aload_n 0, 1) := by decide +kernel
theorem dX9_readHead_1 : decode cX9_readHead 1 = .ok (.iconst 0, 1) := by decide +kernel
theorem dX9_readHead_2 : decode cX9_readHead 2 = .ok (.putfield 19, 3) := by decide +kernel
theorem dX9_readHead_5 : decode cX9_readHead 5 = .ok (.aload_n 0, 1) := by decide +kernel
theorem dX9_readHead_6 : decode cX9_readHead 6 = .ok (.bipush 82, 2) := by decide +kernel
theorem dX9_readHead_8 : decode cX9_readHead 8 = .ok (.invokevirtual 39, 3) := by decide +kernel
theorem dX9_readHead_11 : decode cX9_readHead 11 = .ok (.ireturn, 1) := by decide +kernel
theorem dX9_readCommand_0 : decode cX9_readCommand 0 = .ok (.aload_n 0, 1) := by decide +kernel
theorem dX9_readCommand_1 : decode cX9_readCommand 1 = .ok (.aload_n 0, 1) := by decide +kernel
theorem dX9_readCommand_2 : decode cX9_readCommand 2 = .ok (.invokevirtual 43, 3) := by decide +kernel
theorem dX9_readCommand_5 : decode cX9_readCommand 5 = .ok (.putfield 22, 3) := by decide +kernel
theorem dX9_readCommand_8 : decode cX9_readCommand 8 = .ok (.aload_n 0, 1) := by decide +kernel
theorem dX9_readCommand_9 : decode cX9_readCommand 9 = .ok (.iconst 0, 1) := by decide +kernel
theorem dX9_readCommand_10 : decode cX9_readCommand 10 = .ok (.putfield 29, 3) := by decide +kernel
theorem dX9_readCommand_13 : decode cX9_readCommand 13 = .ok (.aload_n 0, 1) := by decide +kernel
theorem dX9_readCommand_14 : decode cX9_readCommand 14 = .ok (.getfield 22, 3) := by decide +kernel
theorem dX9_readCommand_17 : decode cX9_readCommand 17 = .ok (.lookupswitch 264 #[(98, 197), (99, 141), (103, 101), (112, 59), (115, 230), (121, 172)], 59) := by decide +kernel
theorem dX9_readCommand_76 : decode cX9_readCommand 76 = .ok (.aload_n 0, 1) := by decide +kernel
theorem dX9_readCommand_77 : decode cX9_readCommand 77 = .ok (.bipush 112, 2) := by decide +kernel
theorem dX9_readCommand_79 : decode cX9_readCommand 79 = .ok (.invokevirtual 39, 3) := by decide +kernel
theorem dX9_readCommand_82 : decode cX9_readCommand 82 = .ok (.ifCond .eq 34, 3) := by decide +kernel
theorem dX9_readCommand_85 : decode cX9_readCommand 85 = .ok (.aload_n 0, 1) := by decide +kernel
theorem dX9_readCommand_86 : decode cX9_readCommand 86 = .ok (.bipush 99, 2) := by decide +kernel
theorem dX9_readCommand_88 : decode cX9_readCommand 88 = .ok (.invokevirtual 47, 3) := by decide +kernel
theorem dX9_readCommand_91 : decode cX9_readCommand 91 = .ok (.ifCond .eq 25, 3) := by decide +kernel
theorem dX9_readCommand_94 : decode cX9_readCommand 94 = .ok (.aload_n 0, 1) := by decide +kernel
theorem dX9_readCommand_95 : decode cX9_readCommand 95 = .ok (.iconst 0, 1) := by decide +kernel
theorem dX9_readCommand_96 : decode cX9_readCommand 96 = .ok (.iconst 5, 1) := by decide +kernel
theorem dX9_readCommand_97 : decode cX9_readCommand 97 = .ok (.invokevirtual 50, 3) := by decide +kernel
theorem dX9_readCommand_100 : decode cX9_readCommand 100 = .ok (.ifCond .eq 16, 3) := by decide +kernel
theorem dX9_readCommand_103 : decode cX9_readCommand 103 = .ok (.aload_n 0, 1) := by decide +kernel
theorem dX9_readCommand_104 : decode cX9_readCommand 104 = .ok (.iconst 0, 1) := by decide +kernel
theorem dX9_readCommand_105 : decode cX9_readCommand 105 = .ok (.iconst 3, 1) := by decide +kernel
theorem dX9_readCommand_106 : decode cX9_readCommand 106 = .ok (.invokevirtual 50, 3) := by decide +kernel
theorem dX9_readCommand_109 : decode cX9_readCommand 109 = .ok (.ifCond .eq 7, 3) := by decide +kernel
theorem dX9_readCommand_112 : decode cX9_readCommand 112 = .ok (.iconst 1, 1) := by decide +kernel
theorem dX9_readCommand_113 : decode cX9_readCommand 113 = .ok (.goto 4, 3) := by decide +kernel
theorem dX9_readCommand_116 : decode cX9_readCommand 116 = .ok (.iconst 0, 1) := by decide +kernel
theorem dX9_readCommand_117 : decode cX9_readCommand 117 = .ok (.ireturn, 1) := by decide +kernel
theorem dX9_readCommand_118 : decode cX9_readCommand 118 = .ok (.aload_n 0, 1) := by decide +kernel
theorem dX9_readCommand_119 : decode cX9_readCommand 119 = .ok (.bipush 103, 2) := by decide +kernel
theorem dX9_readCommand_121 : decode cX9_readCommand 121 = .ok (.invokevirtual 39, 3) := by decide +kernel
theorem dX9_readCommand_124 : decode cX9_readCommand 124 = .ok (.ifCond .eq 32, 3) := by decide +kernel
theorem dX9_readCommand_127 : decode cX9_readCommand 127 = .ok (.aload_n 0, 1) := by decide +kernel
theorem dX9_readCommand_128 : decode cX9_readCommand 128 = .ok (.bipush 11, 2) := by decide +kernel
theorem dX9_readCommand_130 : decode cX9_readCommand 130 = .ok (.invokevirtual 47, 3) := by decide +kernel
theorem dX9_readCommand_133 : decode cX9_readCommand 133 = .ok (.ifCond .eq 23, 3) := by decide +kernel
theorem dX9_readCommand_136 : decode cX9_readCommand 136 = .ok (.aload_n 0, 1) := by decide +kernel
theorem dX9_readCommand_137 : decode cX9_readCommand 137 = .ok (.bipush 11, 2) := by decide +kernel
theorem dX9_readCommand_139 : decode cX9_readCommand 139 = .ok (.invokevirtual 47, 3) := by decide +kernel
theorem dX9_readCommand_142 : decode cX9_readCommand 142 = .ok (.ifCond .eq 14, 3) := by decide +kernel
theorem dX9_readCommand_145 : decode cX9_readCommand 145 = .ok (.aload_n 0, 1) := by decide +kernel
theorem dX9_readCommand_146 : decode cX9_readCommand 146 = .ok (.invokevirtual 54, 3) := by decide +kernel
theorem dX9_readCommand_149 : decode cX9_readCommand 149 = .ok (.ifCond .eq 7, 3) := by decide +kernel
theorem dX9_readCommand_152 : decode cX9_readCommand 152 = .ok (.iconst 1, 1) := by decide +kernel
theorem dX9_readCommand_153 : decode cX9_readCommand 153 = .ok (.goto 4, 3) := by decide +kernel
theorem dX9_readCommand_156 : decode cX9_readCommand 156 = .ok (.iconst 0, 1) := by decide +kernel
theorem dX9_readCommand_157 : decode cX9_readCommand 157 = .ok (.ireturn, 1) := by decide +kernel
theorem dX9_readCommand_158 : decode cX9_readCommand 158 = .ok (.aload_n 0, 1) := by decide +kernel
theorem dX9_readCommand_159 : decode cX9_readCommand 159 = .ok (.bipush 99, 2) := by decide +kernel
theorem dX9_readCommand_161 : decode cX9_readCommand 161 = .ok (.invokevirtual 39, 3) := by decide +kernel
theorem dX9_readCommand_164 : decode cX9_readCommand 164 = .ok (.ifCond .eq 23, 3) := by decide +kernel
theorem dX9_readCommand_167 : decode cX9_readCommand 167 = .ok (.aload_n 0, 1) := by decide +kernel
theorem dX9_readCommand_168 : decode cX9_readCommand 168 = .ok (.iconst 0, 1) := by decide +kernel
theorem dX9_readCommand_169 : decode cX9_readCommand 169 = .ok (.iconst 3, 1) := by decide +kernel
theorem dX9_readCommand_170 : decode cX9_readCommand 170 = .ok (.invokevirtual 50, 3) := by decide +kernel
theorem dX9_readCommand_173 : decode cX9_readCommand 173 = .ok (.ifCond .eq 14, 3) := by decide +kernel
theorem dX9_readCommand_176 : decode cX9_readCommand 176 = .ok (.aload_n 0, 1) := by decide +kernel
theorem dX9_readCommand_177 : decode cX9_readCommand 177 = .ok (.invokevirtual 54, 3) := by decide +kernel
theorem dX9_readCommand_180 : decode cX9_readCommand 180 = .ok (.ifCond .eq 7, 3) := by decide +kernel
theorem dX9_readCommand_183 : decode cX9_readCommand 183 = .ok (.iconst 1, 1) := by decide +kernel
theorem dX9_readCommand_184 : decode cX9_readCommand 184 = .ok (.goto 4, 3) := by decide +kernel
theorem dX9_readCommand_187 : decode cX9_readCommand 187 = .ok (.iconst 0, 1) := by decide +kernel
theorem dX9_readCommand_188 : decode cX9_readCommand 188 = .ok (.ireturn, 1) := by decide +kernel
theorem dX9_readCommand_189 : decode cX9_readCommand 189 = .ok (.aload_n 0, 1) := by decide +kernel
theorem dX9_readCommand_190 : decode cX9_readCommand 190 = .ok (.bipush 121, 2) := by decide +kernel
theorem dX9_readCommand_192 : decode cX9_readCommand 192 = .ok (.invokevirtual 39, 3) := by decide +kernel
theorem dX9_readCommand_195 : decode cX9_readCommand 195 = .ok (.ifCond .eq 17, 3) := by decide +kernel
theorem dX9_readCommand_198 : decode cX9_readCommand 198 = .ok (.aload_n 0, 1) := by decide +kernel
theorem dX9_readCommand_199 : decode cX9_readCommand 199 = .ok (.iconst 1, 1) := by decide +kernel
theorem dX9_readCommand_200 : decode cX9_readCommand 200 = .ok (.bipush 9, 2) := by decide +kernel
theorem dX9_readCommand_202 : decode cX9_readCommand 202 = .ok (.invokevirtual 50, 3) := by decide +kernel
theorem dX9_readCommand_205 : decode cX9_readCommand 205 = .ok (.ifCond .eq 7, 3) := by decide +kernel
theorem dX9_readCommand_208 : decode cX9_readCommand 208 = .ok (.iconst 1, 1) := by decide +kernel
theorem dX9_readCommand_209 : decode cX9_readCommand 209 = .ok (.goto 4, 3) := by decide +kernel
theorem dX9_readCommand_212 : decode cX9_readCommand 212 = .ok (.iconst 0, 1) := by decide +kernel
theorem dX9_readCommand_213 : decode cX9_readCommand 213 = .ok (.ireturn, 1) := by decide +kernel
theorem dX9_readCommand_214 : decode cX9_readCommand 214 = .ok (.aload_n 0, 1) := by decide +kernel
theorem dX9_readCommand_215 : decode cX9_readCommand 215 = .ok (.bipush 98, 2) := by decide +kernel
theorem dX9_readCommand_217 : decode cX9_readCommand 217 = .ok (.invokevirtual 39, 3) := by decide +kernel
theorem dX9_readCommand_220 : decode cX9_readCommand 220 = .ok (.ifCond .eq 25, 3) := by decide +kernel
theorem dX9_readCommand_223 : decode cX9_readCommand 223 = .ok (.aload_n 0, 1) := by decide +kernel
theorem dX9_readCommand_224 : decode cX9_readCommand 224 = .ok (.bipush 11, 2) := by decide +kernel
theorem dX9_readCommand_226 : decode cX9_readCommand 226 = .ok (.invokevirtual 47, 3) := by decide +kernel
theorem dX9_readCommand_229 : decode cX9_readCommand 229 = .ok (.ifCond .eq 16, 3) := by decide +kernel
theorem dX9_readCommand_232 : decode cX9_readCommand 232 = .ok (.aload_n 0, 1) := by decide +kernel
theorem dX9_readCommand_233 : decode cX9_readCommand 233 = .ok (.iconst 0, 1) := by decide +kernel
theorem dX9_readCommand_234 : decode cX9_readCommand 234 = .ok (.iconst 3, 1) := by decide +kernel
theorem dX9_readCommand_235 : decode cX9_readCommand 235 = .ok (.invokevirtual 50, 3) := by decide +kernel
theorem dX9_readCommand_238 : decode cX9_readCommand 238 = .ok (.ifCond .eq 7, 3) := by decide +kernel
theorem dX9_readCommand_241 : decode cX9_readCommand 241 = .ok (.iconst 1, 1) := by decide +kernel
theorem dX9_readCommand_242 : decode cX9_readCommand 242 = .ok (.goto 4, 3) := by decide +kernel
theorem dX9_readCommand_245 : decode cX9_readCommand 245 = .ok (.iconst 0, 1) := by decide +kernel
theorem dX9_readCommand_246 : decode cX9_readCommand 246 = .ok (.ireturn, 1) := by decide +kernel
theorem dX9_readCommand_247 : decode cX9_readCommand 247 = .ok (.aload_n 0, 1) := by decide +kernel
theorem dX9_readCommand_248 : decode cX9_readCommand 248 = .ok (.bipush 115, 2) := by decide +kernel
theorem dX9_readCommand_250 : decode cX9_readCommand 250 = .ok (.invokevirtual 39, 3) := by decide +kernel
theorem dX9_readCommand_253 : decode cX9_readCommand 253 = .ok (.ifCond .eq 26, 3) := by decide +kernel
theorem dX9_readCommand_256 : decode cX9_readCommand 256 = .ok (.aload_n 0, 1) := by decide +kernel
theorem dX9_readCommand_257 : decode cX9_readCommand 257 = .ok (.iconst 0, 1) := by decide +kernel
theorem dX9_readCommand_258 : decode cX9_readCommand 258 = .ok (.iconst 2, 1) := by decide +kernel
theorem dX9_readCommand_259 : decode cX9_readCommand 259 = .ok (.invokevirtual 50, 3) := by decide +kernel
theorem dX9_readCommand_262 : decode cX9_readCommand 262 = .ok (.ifCond .eq 17, 3) := by decide +kernel
theorem dX9_readCommand_265 : decode cX9_readCommand 265 = .ok (.aload_n 0, 1) := by decide +kernel
theorem dX9_readCommand_266 : decode cX9_readCommand 266 = .ok (.iconst 0, 1) := by decide +kernel
theorem dX9_readCommand_267 : decode cX9_readCommand 267 = .ok (.bipush 9, 2) := by decide +kernel
theorem dX9_readCommand_269 : decode cX9_readCommand 269 = .ok (.invokevirtual 50, 3) := by decide +kernel
theorem dX9_readCommand_272 : decode cX9_readCommand 272 = .ok (.ifCond .eq 7, 3) := by decide +kernel
theorem dX9_readCommand_275 : decode cX9_readCommand 275 = .ok (.iconst 1, 1) := by decide +kernel
theorem dX9_readCommand_276 : decode cX9_readCommand 276 = .ok (.goto 4, 3) := by decide +kernel
theorem dX9_readCommand_279 : decode cX9_readCommand 279 = .ok (.iconst 0, 1) := by decide +kernel
theorem dX9_readCommand_280 : decode cX9_readCommand 280 = .ok (.ireturn, 1) := by decide +kernel
theorem dX9_readCommand_281 : decode cX9_readCommand 281 = .ok (.iconst 0, 1) := by decide +kernel
theorem dX9_readCommand_282 : decode cX9_readCommand 282 = .ok (.ireturn, 1) := by decide +kernel
theorem dX9_here_0 : decode cX9_here 0 = .ok (.aload_n 0, 1) := by decide +kernel
theorem dX9_here_1 : decode cX9_here 1 = .ok (.getfield 19, 3) := by decide +kernel
theorem dX9_here_4 : decode cX9_here 4 = .ok (.aload_n 0, 1) := by decide +kernel
theorem dX9_here_5 : decode cX9_here 5 = .ok (.getfield 15, 3) := by decide +kernel
theorem dX9_here_8 : decode cX9_here 8 = .ok (.if_icmp .ge 15, 3) := by decide +kernel
theorem dX9_here_11 : decode cX9_here 11 = .ok (.aload_n 0, 1) := by decide +kernel
theorem dX9_here_12 : decode cX9_here 12 = .ok (.getfield 9, 3) := by decide +kernel
theorem dX9_here_15 : decode cX9_here 15 = .ok (.aload_n 0, 1) := by decide +kernel
theorem dX9_here_16 : decode cX9_here 16 = .ok (.getfield 19, 3) := by decide +kernel
theorem dX9_here_19 : decode cX9_here 19 = .ok (.caload, 1) := by decide +kernel
theorem dX9_here_20 : decode cX9_here 20 = .ok (.goto 4, 3) := by decide +kernel
theorem dX9_here_23 : decode cX9_here 23 = .ok (.iconst (-1), 1) := by decide +kernel
theorem dX9_here_24 : decode cX9_here 24 = .ok (.ireturn, 1) := by decide +kernel
theorem dX9_reads_0 : decode cX9_reads 0 = .ok (.aload_n 0, 1) := by decide +kernel
theorem dX9_reads_1 : decode cX9_reads 1 = .ok (.invokevirtual 43, 3) := by decide +kernel
theorem dX9_reads_4 : decode cX9_reads 4 = .ok (.iload_n 1, 1) := by decide +kernel
theorem dX9_reads_5 : decode cX9_reads 5 = .ok (.if_icmp .eq 5, 3) := by decide +kernel
theorem dX9_reads_8 : decode cX9_reads 8 = .ok (.iconst 0, 1) := by decide +kernel
theorem dX9_reads_9 : decode cX9_reads 9 = .ok (.ireturn, 1) := by decide +kernel
theorem dX9_reads_10 : decode cX9_reads 10 = .ok (.aload_n 0, 1) := by decide +kernel
theorem dX9_reads_11 : decode cX9_reads 11 = .ok (.dup, 1) := by decide +kernel
theorem dX9_reads_12 : decode cX9_reads 12 = .ok (.getfield 19, 3) := by decide +kernel
theorem dX9_reads_15 : decode cX9_reads 15 = .ok (.iconst 1, 1) := by decide +kernel
theorem dX9_reads_16 : decode cX9_reads 16 = .ok (.iadd, 1) := by decide +kernel
theorem dX9_reads_17 : decode cX9_reads 17 = .ok (.putfield 19, 3) := by decide +kernel
theorem dX9_reads_20 : decode cX9_reads 20 = .ok (.iconst 1, 1) := by decide +kernel
theorem dX9_reads_21 : decode cX9_reads 21 = .ok (.ireturn, 1) := by decide +kernel
theorem dX9_readsDigit_0 : decode cX9_readsDigit 0 = .ok (.aload_n 0, 1) := by decide +kernel
theorem dX9_readsDigit_1 : decode cX9_readsDigit 1 = .ok (.iload_n 1, 1) := by decide +kernel
theorem dX9_readsDigit_2 : decode cX9_readsDigit 2 = .ok (.iload_n 2, 1) := by decide +kernel
theorem dX9_readsDigit_3 : decode cX9_readsDigit 3 = .ok (.invokevirtual 57, 3) := by decide +kernel
theorem dX9_readsDigit_6 : decode cX9_readsDigit 6 = .ok (.istore_n 3, 1) := by decide +kernel
theorem dX9_readsDigit_7 : decode cX9_readsDigit 7 = .ok (.iload_n 3, 1) := by decide +kernel
theorem dX9_readsDigit_8 : decode cX9_readsDigit 8 = .ok (.iconst (-1), 1) := by decide +kernel
theorem dX9_readsDigit_9 : decode cX9_readsDigit 9 = .ok (.if_icmp .eq 15, 3) := by decide +kernel
theorem dX9_readsDigit_12 : decode cX9_readsDigit 12 = .ok (.aload_n 0, 1) := by decide +kernel
theorem dX9_readsDigit_13 : decode cX9_readsDigit 13 = .ok (.iload_n 3, 1) := by decide +kernel
theorem dX9_readsDigit_14 : decode cX9_readsDigit 14 = .ok (.invokevirtual 61, 3) := by decide +kernel
theorem dX9_readsDigit_17 : decode cX9_readsDigit 17 = .ok (.ifCond .eq 7, 3) := by decide +kernel
theorem dX9_readsDigit_20 : decode cX9_readsDigit 20 = .ok (.iconst 1, 1) := by decide +kernel
theorem dX9_readsDigit_21 : decode cX9_readsDigit 21 = .ok (.goto 4, 3) := by decide +kernel
theorem dX9_readsDigit_24 : decode cX9_readsDigit 24 = .ok (.iconst 0, 1) := by decide +kernel
theorem dX9_readsDigit_25 : decode cX9_readsDigit 25 = .ok (.ireturn, 1) := by decide +kernel
theorem dX9_readsPair_0 : decode cX9_readsPair 0 = .ok (.aload_n 0, 1) := by decide +kernel
theorem dX9_readsPair_1 : decode cX9_readsPair 1 = .ok (.iconst 0, 1) := by decide +kernel
theorem dX9_readsPair_2 : decode cX9_readsPair 2 = .ok (.iload_n 1, 1) := by decide +kernel
theorem dX9_readsPair_3 : decode cX9_readsPair 3 = .ok (.bipush 10, 2) := by decide +kernel
theorem dX9_readsPair_5 : decode cX9_readsPair 5 = .ok (.idiv, 1) := by decide +kernel
theorem dX9_readsPair_6 : decode cX9_readsPair 6 = .ok (.invokevirtual 57, 3) := by decide +kernel
theorem dX9_readsPair_9 : decode cX9_readsPair 9 = .ok (.istore_n 2, 1) := by decide +kernel
theorem dX9_readsPair_10 : decode cX9_readsPair 10 = .ok (.iload_n 2, 1) := by decide +kernel
theorem dX9_readsPair_11 : decode cX9_readsPair 11 = .ok (.iconst (-1), 1) := by decide +kernel
theorem dX9_readsPair_12 : decode cX9_readsPair 12 = .ok (.if_icmp .ne 5, 3) := by decide +kernel
theorem dX9_readsPair_15 : decode cX9_readsPair 15 = .ok (.iconst 0, 1) := by decide +kernel
theorem dX9_readsPair_16 : decode cX9_readsPair 16 = .ok (.ireturn, 1) := by decide +kernel
theorem dX9_readsPair_17 : decode cX9_readsPair 17 = .ok (.aload_n 0, 1) := by decide +kernel
theorem dX9_readsPair_18 : decode cX9_readsPair 18 = .ok (.iconst 0, 1) := by decide +kernel
theorem dX9_readsPair_19 : decode cX9_readsPair 19 = .ok (.iload_n 2, 1) := by decide +kernel
theorem dX9_readsPair_20 : decode cX9_readsPair 20 = .ok (.iload_n 1, 1) := by decide +kernel
theorem dX9_readsPair_21 : decode cX9_readsPair 21 = .ok (.bipush 10, 2) := by decide +kernel
theorem dX9_readsPair_23 : decode cX9_readsPair 23 = .ok (.idiv, 1) := by decide +kernel
theorem dX9_readsPair_24 : decode cX9_readsPair 24 = .ok (.if_icmp .ne 10, 3) := by decide +kernel
theorem dX9_readsPair_27 : decode cX9_readsPair 27 = .ok (.iload_n 1, 1) := by decide +kernel
theorem dX9_readsPair_28 : decode cX9_readsPair 28 = .ok (.bipush 10, 2) := by decide +kernel
theorem dX9_readsPair_30 : decode cX9_readsPair 30 = .ok (.irem, 1) := by decide +kernel
theorem dX9_readsPair_31 : decode cX9_readsPair 31 = .ok (.goto 5, 3) := by decide +kernel
theorem dX9_readsPair_34 : decode cX9_readsPair 34 = .ok (.bipush 9, 2) := by decide +kernel
theorem dX9_readsPair_36 : decode cX9_readsPair 36 = .ok (.invokevirtual 57, 3) := by decide +kernel
theorem dX9_readsPair_39 : decode cX9_readsPair 39 = .ok (.istore_n 3, 1) := by decide +kernel
theorem dX9_readsPair_40 : decode cX9_readsPair 40 = .ok (.iload_n 3, 1) := by decide +kernel
theorem dX9_readsPair_41 : decode cX9_readsPair 41 = .ok (.iconst (-1), 1) := by decide +kernel
theorem dX9_readsPair_42 : decode cX9_readsPair 42 = .ok (.if_icmp .eq 20, 3) := by decide +kernel
theorem dX9_readsPair_45 : decode cX9_readsPair 45 = .ok (.aload_n 0, 1) := by decide +kernel
theorem dX9_readsPair_46 : decode cX9_readsPair 46 = .ok (.bipush 10, 2) := by decide +kernel
theorem dX9_readsPair_48 : decode cX9_readsPair 48 = .ok (.iload_n 2, 1) := by decide +kernel
theorem dX9_readsPair_49 : decode cX9_readsPair 49 = .ok (.imul, 1) := by decide +kernel
theorem dX9_readsPair_50 : decode cX9_readsPair 50 = .ok (.iload_n 3, 1) := by decide +kernel
theorem dX9_readsPair_51 : decode cX9_readsPair 51 = .ok (.iadd, 1) := by decide +kernel
theorem dX9_readsPair_52 : decode cX9_readsPair 52 = .ok (.invokevirtual 61, 3) := by decide +kernel
theorem dX9_readsPair_55 : decode cX9_readsPair 55 = .ok (.ifCond .eq 7, 3) := by decide +kernel
theorem dX9_readsPair_58 : decode cX9_readsPair 58 = .ok (.iconst 1, 1) := by decide +kernel
theorem dX9_readsPair_59 : decode cX9_readsPair 59 = .ok (.goto 4, 3) := by decide +kernel
theorem dX9_readsPair_62 : decode cX9_readsPair 62 = .ok (.iconst 0, 1) := by decide +kernel
theorem dX9_readsPair_63 : decode cX9_readsPair 63 = .ok (.ireturn, 1) := by decide +kernel
theorem dX9_takeDigit_0 : decode cX9_takeDigit 0 = .ok (.aload_n 0, 1) := by decide +kernel
theorem dX9_takeDigit_1 : decode cX9_takeDigit 1 = .ok (.invokevirtual 43, 3) := by decide +kernel
theorem dX9_takeDigit_4 : decode cX9_takeDigit 4 = .ok (.bipush 48, 2) := by decide +kernel
theorem dX9_takeDigit_6 : decode cX9_takeDigit 6 = .ok (.isub, 1) := by decide +kernel
theorem dX9_takeDigit_7 : decode cX9_takeDigit 7 = .ok (.istore_n 3, 1) := by decide +kernel
theorem dX9_takeDigit_8 : decode cX9_takeDigit 8 = .ok (.iload_n 3, 1) := by decide +kernel
theorem dX9_takeDigit_9 : decode cX9_takeDigit 9 = .ok (.iload_n 1, 1) := by decide +kernel
theorem dX9_takeDigit_10 : decode cX9_takeDigit 10 = .ok (.if_icmp .lt 8, 3) := by decide +kernel
theorem dX9_takeDigit_13 : decode cX9_takeDigit 13 = .ok (.iload_n 3, 1) := by decide +kernel
theorem dX9_takeDigit_14 : decode cX9_takeDigit 14 = .ok (.iload_n 2, 1) := by decide +kernel
theorem dX9_takeDigit_15 : decode cX9_takeDigit 15 = .ok (.if_icmp .le 5, 3) := by decide +kernel
theorem dX9_takeDigit_18 : decode cX9_takeDigit 18 = .ok (.iconst (-1), 1) := by decide +kernel
theorem dX9_takeDigit_19 : decode cX9_takeDigit 19 = .ok (.ireturn, 1) := by decide +kernel
theorem dX9_takeDigit_20 : decode cX9_takeDigit 20 = .ok (.aload_n 0, 1) := by decide +kernel
theorem dX9_takeDigit_21 : decode cX9_takeDigit 21 = .ok (.dup, 1) := by decide +kernel
theorem dX9_takeDigit_22 : decode cX9_takeDigit 22 = .ok (.getfield 19, 3) := by decide +kernel
theorem dX9_takeDigit_25 : decode cX9_takeDigit 25 = .ok (.iconst 1, 1) := by decide +kernel
theorem dX9_takeDigit_26 : decode cX9_takeDigit 26 = .ok (.iadd, 1) := by decide +kernel
theorem dX9_takeDigit_27 : decode cX9_takeDigit 27 = .ok (.putfield 19, 3) := by decide +kernel
theorem dX9_takeDigit_30 : decode cX9_takeDigit 30 = .ok (.iload_n 3, 1) := by decide +kernel
theorem dX9_takeDigit_31 : decode cX9_takeDigit 31 = .ok (.ireturn, 1) := by decide +kernel
theorem dX9_readsLetters_0 : decode cX9_readsLetters 0 = .ok (.iconst 0, 1) := by decide +kernel
theorem dX9_readsLetters_1 : decode cX9_readsLetters 1 = .ok (.istore_n 1, 1) := by decide +kernel
theorem dX9_readsLetters_2 : decode cX9_readsLetters 2 = .ok (.iconst 0, 1) := by decide +kernel
theorem dX9_readsLetters_3 : decode cX9_readsLetters 3 = .ok (.istore_n 2, 1) := by decide +kernel
theorem dX9_readsLetters_4 : decode cX9_readsLetters 4 = .ok (.iconst 0, 1) := by decide +kernel
theorem dX9_readsLetters_5 : decode cX9_readsLetters 5 = .ok (.istore_n 3, 1) := by decide +kernel
theorem dX9_readsLetters_6 : decode cX9_readsLetters 6 = .ok (.iload_n 3, 1) := by decide +kernel
theorem dX9_readsLetters_7 : decode cX9_readsLetters 7 = .ok (.iconst 4, 1) := by decide +kernel
theorem dX9_readsLetters_8 : decode cX9_readsLetters 8 = .ok (.if_icmp .ge 53, 3) := by decide +kernel
theorem dX9_readsLetters_11 : decode cX9_readsLetters 11 = .ok (.aload_n 0, 1) := by decide +kernel
theorem dX9_readsLetters_12 : decode cX9_readsLetters 12 = .ok (.invokevirtual 43, 3) := by decide +kernel
theorem dX9_readsLetters_15 : decode cX9_readsLetters 15 = .ok (.bipush 65, 2) := by decide +kernel
theorem dX9_readsLetters_17 : decode cX9_readsLetters 17 = .ok (.if_icmp .lt 44, 3) := by decide +kernel
theorem dX9_readsLetters_20 : decode cX9_readsLetters 20 = .ok (.aload_n 0, 1) := by decide +kernel
theorem dX9_readsLetters_21 : decode cX9_readsLetters 21 = .ok (.invokevirtual 43, 3) := by decide +kernel
theorem dX9_readsLetters_24 : decode cX9_readsLetters 24 = .ok (.bipush 90, 2) := by decide +kernel
theorem dX9_readsLetters_26 : decode cX9_readsLetters 26 = .ok (.if_icmp .gt 35, 3) := by decide +kernel
theorem dX9_readsLetters_29 : decode cX9_readsLetters 29 = .ok (.iload_n 2, 1) := by decide +kernel
theorem dX9_readsLetters_30 : decode cX9_readsLetters 30 = .ok (.bipush 26, 2) := by decide +kernel
theorem dX9_readsLetters_32 : decode cX9_readsLetters 32 = .ok (.imul, 1) := by decide +kernel
theorem dX9_readsLetters_33 : decode cX9_readsLetters 33 = .ok (.aload_n 0, 1) := by decide +kernel
theorem dX9_readsLetters_34 : decode cX9_readsLetters 34 = .ok (.invokevirtual 43, 3) := by decide +kernel
theorem dX9_readsLetters_37 : decode cX9_readsLetters 37 = .ok (.bipush 65, 2) := by decide +kernel
theorem dX9_readsLetters_39 : decode cX9_readsLetters 39 = .ok (.isub, 1) := by decide +kernel
theorem dX9_readsLetters_40 : decode cX9_readsLetters 40 = .ok (.iadd, 1) := by decide +kernel
theorem dX9_readsLetters_41 : decode cX9_readsLetters 41 = .ok (.istore_n 2, 1) := by decide +kernel
theorem dX9_readsLetters_42 : decode cX9_readsLetters 42 = .ok (.iinc 1 1, 3) := by decide +kernel
theorem dX9_readsLetters_45 : decode cX9_readsLetters 45 = .ok (.aload_n 0, 1) := by decide +kernel
theorem dX9_readsLetters_46 : decode cX9_readsLetters 46 = .ok (.dup, 1) := by decide +kernel
theorem dX9_readsLetters_47 : decode cX9_readsLetters 47 = .ok (.getfield 19, 3) := by decide +kernel
theorem dX9_readsLetters_50 : decode cX9_readsLetters 50 = .ok (.iconst 1, 1) := by decide +kernel
theorem dX9_readsLetters_51 : decode cX9_readsLetters 51 = .ok (.iadd, 1) := by decide +kernel
theorem dX9_readsLetters_52 : decode cX9_readsLetters 52 = .ok (.putfield 19, 3) := by decide +kernel
theorem dX9_readsLetters_55 : decode cX9_readsLetters 55 = .ok (.iinc 3 1, 3) := by decide +kernel
theorem dX9_readsLetters_58 : decode cX9_readsLetters 58 = .ok (.goto (-52), 3) := by decide +kernel
theorem dX9_readsLetters_61 : decode cX9_readsLetters 61 = .ok (.iload_n 1, 1) := by decide +kernel
theorem dX9_readsLetters_62 : decode cX9_readsLetters 62 = .ok (.ifCond .le 32, 3) := by decide +kernel
theorem dX9_readsLetters_65 : decode cX9_readsLetters 65 = .ok (.aload_n 0, 1) := by decide +kernel
theorem dX9_readsLetters_66 : decode cX9_readsLetters 66 = .ok (.iload_n 1, 1) := by decide +kernel
theorem dX9_readsLetters_67 : decode cX9_readsLetters 67 = .ok (.invokevirtual 61, 3) := by decide +kernel
theorem dX9_readsLetters_70 : decode cX9_readsLetters 70 = .ok (.ifCond .eq 24, 3) := by decide +kernel
theorem dX9_readsLetters_73 : decode cX9_readsLetters 73 = .ok (.aload_n 0, 1) := by decide +kernel
theorem dX9_readsLetters_74 : decode cX9_readsLetters 74 = .ok (.iload_n 2, 1) := by decide +kernel
theorem dX9_readsLetters_75 : decode cX9_readsLetters 75 = .ok (.invokevirtual 61, 3) := by decide +kernel
theorem dX9_readsLetters_78 : decode cX9_readsLetters 78 = .ok (.ifCond .eq 16, 3) := by decide +kernel
theorem dX9_readsLetters_81 : decode cX9_readsLetters 81 = .ok (.aload_n 0, 1) := by decide +kernel
theorem dX9_readsLetters_82 : decode cX9_readsLetters 82 = .ok (.bipush 46, 2) := by decide +kernel
theorem dX9_readsLetters_84 : decode cX9_readsLetters 84 = .ok (.invokevirtual 39, 3) := by decide +kernel
theorem dX9_readsLetters_87 : decode cX9_readsLetters 87 = .ok (.ifCond .eq 7, 3) := by decide +kernel
theorem dX9_readsLetters_90 : decode cX9_readsLetters 90 = .ok (.iconst 1, 1) := by decide +kernel
theorem dX9_readsLetters_91 : decode cX9_readsLetters 91 = .ok (.goto 4, 3) := by decide +kernel
theorem dX9_readsLetters_94 : decode cX9_readsLetters 94 = .ok (.iconst 0, 1) := by decide +kernel
theorem dX9_readsLetters_95 : decode cX9_readsLetters 95 = .ok (.ireturn, 1) := by decide +kernel
theorem dX9_tells_0 : decode cX9_tells 0 = .ok (.aload_n 0, 1) := by decide +kernel
theorem dX9_tells_1 : decode cX9_tells 1 = .ok (.getfield 29, 3) := by decide +kernel
theorem dX9_tells_4 : decode cX9_tells 4 = .ok (.iconst 4, 1) := by decide +kernel
theorem dX9_tells_5 : decode cX9_tells 5 = .ok (.if_icmp .lt 5, 3) := by decide +kernel
theorem dX9_tells_8 : decode cX9_tells 8 = .ok (.iconst 0, 1) := by decide +kernel
theorem dX9_tells_9 : decode cX9_tells 9 = .ok (.ireturn, 1) := by decide +kernel
theorem dX9_tells_10 : decode cX9_tells 10 = .ok (.aload_n 0, 1) := by decide +kernel
theorem dX9_tells_11 : decode cX9_tells 11 = .ok (.getfield 25, 3) := by decide +kernel
theorem dX9_tells_14 : decode cX9_tells 14 = .ok (.aload_n 0, 1) := by decide +kernel
theorem dX9_tells_15 : decode cX9_tells 15 = .ok (.getfield 29, 3) := by decide +kernel
theorem dX9_tells_18 : decode cX9_tells 18 = .ok (.iload_n 1, 1) := by decide +kernel
theorem dX9_tells_19 : decode cX9_tells 19 = .ok (.iastore, 1) := by decide +kernel
theorem dX9_tells_20 : decode cX9_tells 20 = .ok (.aload_n 0, 1) := by decide +kernel
theorem dX9_tells_21 : decode cX9_tells 21 = .ok (.dup, 1) := by decide +kernel
theorem dX9_tells_22 : decode cX9_tells 22 = .ok (.getfield 29, 3) := by decide +kernel
theorem dX9_tells_25 : decode cX9_tells 25 = .ok (.iconst 1, 1) := by decide +kernel
theorem dX9_tells_26 : decode cX9_tells 26 = .ok (.iadd, 1) := by decide +kernel
theorem dX9_tells_27 : decode cX9_tells 27 = .ok (.putfield 29, 3) := by decide +kernel
theorem dX9_tells_30 : decode cX9_tells 30 = .ok (.iconst 1, 1) := by decide +kernel
theorem dX9_tells_31 : decode cX9_tells 31 = .ok (.ireturn, 1) := by decide +kernel
theorem dJ9_max_7cf53_0 : decode cJ9_max_7cf53 0 = .ok (.iload_n 0, 1) := by decide +kernel
theorem dJ9_max_7cf53_1 : decode cJ9_max_7cf53 1 = .ok (.iload_n 1, 1) := by decide +kernel
theorem dJ9_max_7cf53_2 : decode cJ9_max_7cf53 2 = .ok (.if_icmp .lt 7, 3) := by decide +kernel
theorem dJ9_max_7cf53_5 : decode cJ9_max_7cf53 5 = .ok (.iload_n 0, 1) := by decide +kernel
theorem dJ9_max_7cf53_6 : decode cJ9_max_7cf53 6 = .ok (.goto 4, 3) := by decide +kernel
theorem dJ9_max_7cf53_9 : decode cJ9_max_7cf53 9 = .ok (.iload_n 1, 1) := by decide +kernel
theorem dJ9_max_7cf53_10 : decode cJ9_max_7cf53 10 = .ok (.ireturn, 1) := by decide +kernel
theorem dJ9_min_7cf53_0 : decode cJ9_min_7cf53 0 = .ok (.iload_n 0, 1) := by decide +kernel
theorem dJ9_min_7cf53_1 : decode cJ9_min_7cf53 1 = .ok (.iload_n 1, 1) := by decide +kernel
theorem dJ9_min_7cf53_2 : decode cJ9_min_7cf53 2 = .ok (.if_icmp .gt 7, 3) := by decide +kernel
theorem dJ9_min_7cf53_5 : decode cJ9_min_7cf53 5 = .ok (.iload_n 0, 1) := by decide +kernel
theorem dJ9_min_7cf53_6 : decode cJ9_min_7cf53 6 = .ok (.goto 4, 3) := by decide +kernel
theorem dJ9_min_7cf53_9 : decode cJ9_min_7cf53 9 = .ok (.iload_n 1, 1) := by decide +kernel
theorem dJ9_min_7cf53_10 : decode cJ9_min_7cf53 10 = .ok (.ireturn, 1) := by decide +kernel
