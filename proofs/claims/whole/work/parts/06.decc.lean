theorem dX11_init_0 : decode cX11_init 0 = .ok (.aload_n 0, 1) := by decide +kernel
theorem dX11_init_1 : decode cX11_init 1 = .ok (.invokespecial 1, 3) := by decide +kernel
theorem dX11_init_4 : decode cX11_init 4 = .ok (.aload_n 0, 1) := by decide +kernel
theorem dX11_init_5 : decode cX11_init 5 = .ok (.sipush 389, 3) := by decide +kernel
theorem dX11_init_8 : decode cX11_init 8 = .ok (.newarray .int, 2) := by decide +kernel
theorem dX11_init_10 : decode cX11_init 10 = .ok (.putfield 7, 3) := by decide +kernel
theorem dX11_init_13 : decode cX11_init 13 = .ok (.aload_n 0, 1) := by decide +kernel
theorem dX11_init_14 : decode cX11_init 14 = .ok (.sipush 389, 3) := by decide +kernel
theorem dX11_init_17 : decode cX11_init 17 = .ok (.newarray .int, 2) := by decide +kernel
theorem dX11_init_19 : decode cX11_init 19 = .ok (.putfield 13, 3) := by decide +kernel
theorem dX11_init_22 : decode cX11_init 22 = .ok (.aload_n 0, 1) := by decide +kernel
theorem dX11_init_23 : decode cX11_init 23 = .ok (.sipush 389, 3) := by decide +kernel
theorem dX11_init_26 : decode cX11_init 26 = .ok (.newarray .int, 2) := by decide +kernel
theorem dX11_init_28 : decode cX11_init 28 = .ok (.putfield 16, 3) := by decide +kernel
theorem dX11_init_31 : decode cX11_init 31 = .ok (.aload_n 0, 1) := by decide +kernel
theorem dX11_init_32 : decode cX11_init 32 = .ok (.sipush 5446, 3) := by decide +kernel
theorem dX11_init_35 : decode cX11_init 35 = .ok (.newarray .int, 2) := by decide +kernel
theorem dX11_init_37 : decode cX11_init 37 = .ok (.putfield 19, 3) := by decide +kernel
theorem dX11_init_40 : decode cX11_init 40 = .ok (.aload_n 0, 1) := by decide +kernel
theorem dX11_init_41 : decode cX11_init 41 = .ok (.sipush 778, 3) := by decide +kernel
theorem dX11_init_44 : decode cX11_init 44 = .ok (.newarray .int, 2) := by decide +kernel
theorem dX11_init_46 : decode cX11_init 46 = .ok (.putfield 22, 3) := by decide +kernel
theorem dX11_init_49 : decode cX11_init 49 = .ok (.aload_n 0, 1) := by decide +kernel
theorem dX11_init_50 : decode cX11_init 50 = .ok (.iconst 2, 1) := by decide +kernel
theorem dX11_init_51 : decode cX11_init 51 = .ok (.newarray .boolean, 2) := by decide +kernel
theorem dX11_init_53 : decode cX11_init 53 = .ok (.putfield 25, 3) := by decide +kernel
theorem dX11_init_56 : decode cX11_init 56 = .ok (.aload_n 0, 1) := by decide +kernel
theorem dX11_init_57 : decode cX11_init 57 = .ok (.bipush 26, 2) := by decide +kernel
theorem dX11_init_59 : decode cX11_init 59 = .ok (.newarray .int, 2) := by decide +kernel
theorem dX11_init_61 : decode cX11_init 61 = .ok (.putfield 29, 3) := by decide +kernel
theorem dX11_init_64 : decode cX11_init 64 = .ok (.aload_n 0, 1) := by decide +kernel
theorem dX11_init_65 : decode cX11_init 65 = .ok (.bipush 120, 2) := by decide +kernel
theorem dX11_init_67 : decode cX11_init 67 = .ok (.newarray .int, 2) := by decide +kernel
theorem dX11_init_69 : decode cX11_init 69 = .ok (.putfield 32, 3) := by decide +kernel
theorem dX11_init_72 : decode cX11_init 72 = .ok (.aload_n 0, 1) := by decide +kernel
theorem dX11_init_73 : decode cX11_init 73 = .ok (.getfield 7, 3) := by decide +kernel
theorem dX11_init_76 : decode cX11_init 76 = .ok (.invokestatic 35, 3) := by decide +kernel
theorem dX11_init_79 : decode cX11_init 79 = .ok (.return_, 1) := by decide +kernel
theorem dX11_thrown_0 : decode cX11_thrown 0 = .ok (.aload_n 0, 1) := by decide +kernel
theorem dX11_thrown_1 : decode cX11_thrown 1 = .ok (.getfield 39, 3) := by decide +kernel
theorem dX11_thrown_4 : decode cX11_thrown 4 = .ok (.ireturn, 1) := by decide +kernel
theorem dX11_refused_0 : decode cX11_refused 0 = .ok (.aload_n 0, 1) := by decide +kernel
theorem dX11_refused_1 : decode cX11_refused 1 = .ok (.iload_n 1, 1) := by decide +kernel
theorem dX11_refused_2 : decode cX11_refused 2 = .ok (.putfield 39, 3) := by decide +kernel
theorem dX11_refused_5 : decode cX11_refused 5 = .ok (.iload_n 1, 1) := by decide +kernel
theorem dX11_refused_6 : decode cX11_refused 6 = .ok (.ifCond .eq 7, 3) := by decide +kernel
theorem dX11_refused_9 : decode cX11_refused 9 = .ok (.iconst 1, 1) := by decide +kernel
theorem dX11_refused_10 : decode cX11_refused 10 = .ok (.goto 4, 3) := by decide +kernel
theorem dX11_refused_13 : decode cX11_refused 13 = .ok (.iconst 0, 1) := by decide +kernel
theorem dX11_refused_14 : decode cX11_refused 14 = .ok (.ireturn, 1) := by decide +kernel
theorem dX11_in_0 : decode cX11_in 0 = .ok (.lload_n 0, 1) := by decide +kernel
theorem dX11_in_1 : decode cX11_in 1 = .ok (.lload_n 2, 1) := by decide +kernel
theorem dX11_in_2 : decode cX11_in 2 = .ok (.lcmp, 1) := by decide +kernel
theorem dX11_in_3 : decode cX11_in 3 = .ok (.ifCond .lt 14, 3) := by decide +kernel
theorem dX11_in_6 : decode cX11_in 6 = .ok (.lload_n 0, 1) := by decide +kernel
theorem dX11_in_7 : decode cX11_in 7 = .ok (.lload 4, 2) := by decide +kernel
theorem dX11_in_9 : decode cX11_in 9 = .ok (.lcmp, 1) := by decide +kernel
theorem dX11_in_10 : decode cX11_in 10 = .ok (.ifCond .gt 7, 3) := by decide +kernel
theorem dX11_in_13 : decode cX11_in 13 = .ok (.iconst 1, 1) := by decide +kernel
theorem dX11_in_14 : decode cX11_in 14 = .ok (.goto 4, 3) := by decide +kernel
theorem dX11_in_17 : decode cX11_in 17 = .ok (.iconst 0, 1) := by decide +kernel
theorem dX11_in_18 : decode cX11_in 18 = .ok (.ireturn, 1) := by decide +kernel
theorem dX11_tens_0 : decode cX11_tens 0 = .ok (.lconst 1, 1) := by decide +kernel
theorem dX11_tens_1 : decode cX11_tens 1 = .ok (.lstore_n 1, 1) := by decide +kernel
theorem dX11_tens_2 : decode cX11_tens 2 = .ok (.iconst 0, 1) := by decide +kernel
theorem dX11_tens_3 : decode cX11_tens 3 = .ok (.istore_n 3, 1) := by decide +kernel
theorem dX11_tens_4 : decode cX11_tens 4 = .ok (.iload_n 3, 1) := by decide +kernel
theorem dX11_tens_5 : decode cX11_tens 5 = .ok (.iload_n 0, 1) := by decide +kernel
theorem dX11_tens_6 : decode cX11_tens 6 = .ok (.if_icmp .ge 15, 3) := by decide +kernel
theorem dX11_tens_9 : decode cX11_tens 9 = .ok (.lload_n 1, 1) := by decide +kernel
theorem dX11_tens_10 : decode cX11_tens 10 = .ok (.ldc2_w 43, 3) := by decide +kernel
theorem dX11_tens_13 : decode cX11_tens 13 = .ok (.lmul, 1) := by decide +kernel
theorem dX11_tens_14 : decode cX11_tens 14 = .ok (.lstore_n 1, 1) := by decide +kernel
theorem dX11_tens_15 : decode cX11_tens 15 = .ok (.iinc 3 1, 3) := by decide +kernel
theorem dX11_tens_18 : decode cX11_tens 18 = .ok (.goto (-14), 3) := by decide +kernel
theorem dX11_tens_21 : decode cX11_tens 21 = .ok (.lload_n 1, 1) := by decide +kernel
theorem dX11_tens_22 : decode cX11_tens 22 = .ok (.lreturn, 1) := by decide +kernel
theorem dX11_codes_0 : decode cX11_codes 0 = .ok (.iconst 1, 1) := by decide +kernel
theorem dX11_codes_1 : decode cX11_codes 1 = .ok (.istore_n 1, 1) := by decide +kernel
theorem dX11_codes_2 : decode cX11_codes 2 = .ok (.iconst 0, 1) := by decide +kernel
theorem dX11_codes_3 : decode cX11_codes 3 = .ok (.istore_n 2, 1) := by decide +kernel
theorem dX11_codes_4 : decode cX11_codes 4 = .ok (.iload_n 2, 1) := by decide +kernel
theorem dX11_codes_5 : decode cX11_codes 5 = .ok (.iload_n 0, 1) := by decide +kernel
theorem dX11_codes_6 : decode cX11_codes 6 = .ok (.if_icmp .ge 14, 3) := by decide +kernel
theorem dX11_codes_9 : decode cX11_codes 9 = .ok (.iload_n 1, 1) := by decide +kernel
theorem dX11_codes_10 : decode cX11_codes 10 = .ok (.bipush 26, 2) := by decide +kernel
theorem dX11_codes_12 : decode cX11_codes 12 = .ok (.imul, 1) := by decide +kernel
theorem dX11_codes_13 : decode cX11_codes 13 = .ok (.istore_n 1, 1) := by decide +kernel
theorem dX11_codes_14 : decode cX11_codes 14 = .ok (.iinc 2 1, 3) := by decide +kernel
theorem dX11_codes_17 : decode cX11_codes 17 = .ok (.goto (-13), 3) := by decide +kernel
theorem dX11_codes_20 : decode cX11_codes 20 = .ok (.iload_n 1, 1) := by decide +kernel
theorem dX11_codes_21 : decode cX11_codes 21 = .ok (.ireturn, 1) := by decide +kernel
theorem dX11_fresh_0 : decode cX11_fresh 0 = .ok (.iconst 0, 1) := by decide +kernel
theorem dX11_fresh_1 : decode cX11_fresh 1 = .ok (.istore_n 1, 1) := by decide +kernel
theorem dX11_fresh_2 : decode cX11_fresh 2 = .ok (.iload_n 1, 1) := by decide +kernel
theorem dX11_fresh_3 : decode cX11_fresh 3 = .ok (.sipush 389, 3) := by decide +kernel
theorem dX11_fresh_6 : decode cX11_fresh 6 = .ok (.if_icmp .ge 13, 3) := by decide +kernel
theorem dX11_fresh_9 : decode cX11_fresh 9 = .ok (.aload_n 0, 1) := by decide +kernel
theorem dX11_fresh_10 : decode cX11_fresh 10 = .ok (.iload_n 1, 1) := by decide +kernel
theorem dX11_fresh_11 : decode cX11_fresh 11 = .ok (.iconst 0, 1) := by decide +kernel
theorem dX11_fresh_12 : decode cX11_fresh 12 = .ok (.iastore, 1) := by decide +kernel
theorem dX11_fresh_13 : decode cX11_fresh 13 = .ok (.iinc 1 1, 3) := by decide +kernel
theorem dX11_fresh_16 : decode cX11_fresh 16 = .ok (.goto (-14), 3) := by decide +kernel
theorem dX11_fresh_19 : decode cX11_fresh 19 = .ok (.aload_n 0, 1) := by decide +kernel
theorem dX11_fresh_20 : decode cX11_fresh 20 = .ok (.sipush 386, 3) := by decide +kernel
theorem dX11_fresh_23 : decode cX11_fresh 23 = .ok (.iconst 3, 1) := by decide +kernel
theorem dX11_fresh_24 : decode cX11_fresh 24 = .ok (.iastore, 1) := by decide +kernel
theorem dX11_fresh_25 : decode cX11_fresh 25 = .ok (.aload_n 0, 1) := by decide +kernel
theorem dX11_fresh_26 : decode cX11_fresh 26 = .ok (.sipush 387, 3) := by decide +kernel
theorem dX11_fresh_29 : decode cX11_fresh 29 = .ok (.iconst 3, 1) := by decide +kernel
theorem dX11_fresh_30 : decode cX11_fresh 30 = .ok (.iastore, 1) := by decide +kernel
theorem dX11_fresh_31 : decode cX11_fresh 31 = .ok (.aload_n 0, 1) := by decide +kernel
theorem dX11_fresh_32 : decode cX11_fresh 32 = .ok (.sipush 388, 3) := by decide +kernel
theorem dX11_fresh_35 : decode cX11_fresh 35 = .ok (.iconst 3, 1) := by decide +kernel
theorem dX11_fresh_36 : decode cX11_fresh 36 = .ok (.iastore, 1) := by decide +kernel
theorem dX11_fresh_37 : decode cX11_fresh 37 = .ok (.return_, 1) := by decide +kernel
theorem dX11_copy_0 : decode cX11_copy 0 = .ok (.iconst 0, 1) := by decide +kernel
theorem dX11_copy_1 : decode cX11_copy 1 = .ok (.istore_n 2, 1) := by decide +kernel
theorem dX11_copy_2 : decode cX11_copy 2 = .ok (.iload_n 2, 1) := by decide +kernel
theorem dX11_copy_3 : decode cX11_copy 3 = .ok (.sipush 389, 3) := by decide +kernel
theorem dX11_copy_6 : decode cX11_copy 6 = .ok (.if_icmp .ge 15, 3) := by decide +kernel
theorem dX11_copy_9 : decode cX11_copy 9 = .ok (.aload_n 1, 1) := by decide +kernel
theorem dX11_copy_10 : decode cX11_copy 10 = .ok (.iload_n 2, 1) := by decide +kernel
theorem dX11_copy_11 : decode cX11_copy 11 = .ok (.aload_n 0, 1) := by decide +kernel
theorem dX11_copy_12 : decode cX11_copy 12 = .ok (.iload_n 2, 1) := by decide +kernel
theorem dX11_copy_13 : decode cX11_copy 13 = .ok (.iaload, 1) := by decide +kernel
theorem dX11_copy_14 : decode cX11_copy 14 = .ok (.iastore, 1) := by decide +kernel
theorem dX11_copy_15 : decode cX11_copy 15 = .ok (.iinc 2 1, 3) := by decide +kernel
theorem dX11_copy_18 : decode cX11_copy 18 = .ok (.goto (-16), 3) := by decide +kernel
theorem dX11_copy_21 : decode cX11_copy 21 = .ok (.return_, 1) := by decide +kernel
theorem dX11_isPerson_0 : decode cX11_isPerson 0 = .ok (.iload_n 1, 1) := by decide +kernel
theorem dX11_isPerson_1 : decode cX11_isPerson 1 = .ok (.i2l, 1) := by decide +kernel
theorem dX11_isPerson_2 : decode cX11_isPerson 2 = .ok (.lconst 0, 1) := by decide +kernel
theorem dX11_isPerson_3 : decode cX11_isPerson 3 = .ok (.aload_n 0, 1) := by decide +kernel
theorem dX11_isPerson_4 : decode cX11_isPerson 4 = .ok (.sipush 380, 3) := by decide +kernel
theorem dX11_isPerson_7 : decode cX11_isPerson 7 = .ok (.iaload, 1) := by decide +kernel
theorem dX11_isPerson_8 : decode cX11_isPerson 8 = .ok (.iconst 1, 1) := by decide +kernel
theorem dX11_isPerson_9 : decode cX11_isPerson 9 = .ok (.isub, 1) := by decide +kernel
theorem dX11_isPerson_10 : decode cX11_isPerson 10 = .ok (.i2l, 1) := by decide +kernel
theorem dX11_isPerson_11 : decode cX11_isPerson 11 = .ok (.invokestatic 45, 3) := by decide +kernel
theorem dX11_isPerson_14 : decode cX11_isPerson 14 = .ok (.ireturn, 1) := by decide +kernel
theorem dX11_isName_0 : decode cX11_isName 0 = .ok (.iload_n 1, 1) := by decide +kernel
theorem dX11_isName_1 : decode cX11_isName 1 = .ok (.i2l, 1) := by decide +kernel
theorem dX11_isName_2 : decode cX11_isName 2 = .ok (.lconst 0, 1) := by decide +kernel
theorem dX11_isName_3 : decode cX11_isName 3 = .ok (.aload_n 0, 1) := by decide +kernel
theorem dX11_isName_4 : decode cX11_isName 4 = .ok (.sipush 381, 3) := by decide +kernel
theorem dX11_isName_7 : decode cX11_isName 7 = .ok (.iaload, 1) := by decide +kernel
theorem dX11_isName_8 : decode cX11_isName 8 = .ok (.iconst 1, 1) := by decide +kernel
theorem dX11_isName_9 : decode cX11_isName 9 = .ok (.isub, 1) := by decide +kernel
theorem dX11_isName_10 : decode cX11_isName 10 = .ok (.i2l, 1) := by decide +kernel
theorem dX11_isName_11 : decode cX11_isName 11 = .ok (.invokestatic 45, 3) := by decide +kernel
theorem dX11_isName_14 : decode cX11_isName 14 = .ok (.ireturn, 1) := by decide +kernel
theorem dX11_isBench_0 : decode cX11_isBench 0 = .ok (.iload_n 0, 1) := by decide +kernel
theorem dX11_isBench_1 : decode cX11_isBench 1 = .ok (.i2l, 1) := by decide +kernel
theorem dX11_isBench_2 : decode cX11_isBench 2 = .ok (.lconst 0, 1) := by decide +kernel
theorem dX11_isBench_3 : decode cX11_isBench 3 = .ok (.ldc2_w 49, 3) := by decide +kernel
theorem dX11_isBench_6 : decode cX11_isBench 6 = .ok (.invokestatic 45, 3) := by decide +kernel
theorem dX11_isBench_9 : decode cX11_isBench 9 = .ok (.ireturn, 1) := by decide +kernel
theorem dX11_isCode_0 : decode cX11_isCode 0 = .ok (.iload_n 0, 1) := by decide +kernel
theorem dX11_isCode_1 : decode cX11_isCode 1 = .ok (.i2l, 1) := by decide +kernel
theorem dX11_isCode_2 : decode cX11_isCode 2 = .ok (.lconst 1, 1) := by decide +kernel
theorem dX11_isCode_3 : decode cX11_isCode 3 = .ok (.ldc2_w 51, 3) := by decide +kernel
theorem dX11_isCode_6 : decode cX11_isCode 6 = .ok (.invokestatic 45, 3) := by decide +kernel
theorem dX11_isCode_9 : decode cX11_isCode 9 = .ok (.ifCond .eq 23, 3) := by decide +kernel
theorem dX11_isCode_12 : decode cX11_isCode 12 = .ok (.iload_n 1, 1) := by decide +kernel
theorem dX11_isCode_13 : decode cX11_isCode 13 = .ok (.i2l, 1) := by decide +kernel
theorem dX11_isCode_14 : decode cX11_isCode 14 = .ok (.lconst 0, 1) := by decide +kernel
theorem dX11_isCode_15 : decode cX11_isCode 15 = .ok (.iload_n 0, 1) := by decide +kernel
theorem dX11_isCode_16 : decode cX11_isCode 16 = .ok (.invokestatic 53, 3) := by decide +kernel
theorem dX11_isCode_19 : decode cX11_isCode 19 = .ok (.iconst 1, 1) := by decide +kernel
theorem dX11_isCode_20 : decode cX11_isCode 20 = .ok (.isub, 1) := by decide +kernel
theorem dX11_isCode_21 : decode cX11_isCode 21 = .ok (.i2l, 1) := by decide +kernel
theorem dX11_isCode_22 : decode cX11_isCode 22 = .ok (.invokestatic 45, 3) := by decide +kernel
theorem dX11_isCode_25 : decode cX11_isCode 25 = .ok (.ifCond .eq 7, 3) := by decide +kernel
theorem dX11_isCode_28 : decode cX11_isCode 28 = .ok (.iconst 1, 1) := by decide +kernel
theorem dX11_isCode_29 : decode cX11_isCode 29 = .ok (.goto 4, 3) := by decide +kernel
theorem dX11_isCode_32 : decode cX11_isCode 32 = .ok (.iconst 0, 1) := by decide +kernel
theorem dX11_isCode_33 : decode cX11_isCode 33 = .ok (.ireturn, 1) := by decide +kernel
theorem dX11_isSetting_0 : decode cX11_isSetting 0 = .ok (.iload_n 0, 1) := by decide +kernel
theorem dX11_isSetting_1 : decode cX11_isSetting 1 = .ok (.i2l, 1) := by decide +kernel
theorem dX11_isSetting_2 : decode cX11_isSetting 2 = .ok (.lconst 0, 1) := by decide +kernel
theorem dX11_isSetting_3 : decode cX11_isSetting 3 = .ok (.ldc2_w 57, 3) := by decide +kernel
theorem dX11_isSetting_6 : decode cX11_isSetting 6 = .ok (.invokestatic 45, 3) := by decide +kernel
theorem dX11_isSetting_9 : decode cX11_isSetting 9 = .ok (.ifCond .eq 28, 3) := by decide +kernel
theorem dX11_isSetting_12 : decode cX11_isSetting 12 = .ok (.iload_n 1, 1) := by decide +kernel
theorem dX11_isSetting_13 : decode cX11_isSetting 13 = .ok (.i2l, 1) := by decide +kernel
theorem dX11_isSetting_14 : decode cX11_isSetting 14 = .ok (.iload_n 0, 1) := by decide +kernel
theorem dX11_isSetting_15 : decode cX11_isSetting 15 = .ok (.iconst 2, 1) := by decide +kernel
theorem dX11_isSetting_16 : decode cX11_isSetting 16 = .ok (.if_icmp .ne 7, 3) := by decide +kernel
theorem dX11_isSetting_19 : decode cX11_isSetting 19 = .ok (.lconst 0, 1) := by decide +kernel
theorem dX11_isSetting_20 : decode cX11_isSetting 20 = .ok (.goto 4, 3) := by decide +kernel
theorem dX11_isSetting_23 : decode cX11_isSetting 23 = .ok (.lconst 1, 1) := by decide +kernel
theorem dX11_isSetting_24 : decode cX11_isSetting 24 = .ok (.ldc2_w 59, 3) := by decide +kernel
theorem dX11_isSetting_27 : decode cX11_isSetting 27 = .ok (.invokestatic 45, 3) := by decide +kernel
theorem dX11_isSetting_30 : decode cX11_isSetting 30 = .ok (.ifCond .eq 7, 3) := by decide +kernel
theorem dX11_isSetting_33 : decode cX11_isSetting 33 = .ok (.iconst 1, 1) := by decide +kernel
theorem dX11_isSetting_34 : decode cX11_isSetting 34 = .ok (.goto 4, 3) := by decide +kernel
theorem dX11_isSetting_37 : decode cX11_isSetting 37 = .ok (.iconst 0, 1) := by decide +kernel
theorem dX11_isSetting_38 : decode cX11_isSetting 38 = .ok (.ireturn, 1) := by decide +kernel
theorem dX11_spot_0 : decode cX11_spot 0 = .ok (.bipush 60, 2) := by decide +kernel
theorem dX11_spot_2 : decode cX11_spot 2 = .ok (.bipush 8, 2) := by decide +kernel
theorem dX11_spot_4 : decode cX11_spot 4 = .ok (.iload_n 0, 1) := by decide +kernel
theorem dX11_spot_5 : decode cX11_spot 5 = .ok (.imul, 1) := by decide +kernel
theorem dX11_spot_6 : decode cX11_spot 6 = .ok (.iadd, 1) := by decide +kernel
theorem dX11_spot_7 : decode cX11_spot 7 = .ok (.ireturn, 1) := by decide +kernel
theorem dX11_isAlive_0 : decode cX11_isAlive 0 = .ok (.aload_n 0, 1) := by decide +kernel
theorem dX11_isAlive_1 : decode cX11_isAlive 1 = .ok (.iload_n 1, 1) := by decide +kernel
theorem dX11_isAlive_2 : decode cX11_isAlive 2 = .ok (.invokestatic 61, 3) := by decide +kernel
theorem dX11_isAlive_5 : decode cX11_isAlive 5 = .ok (.bipush 6, 2) := by decide +kernel
theorem dX11_isAlive_7 : decode cX11_isAlive 7 = .ok (.iadd, 1) := by decide +kernel
theorem dX11_isAlive_8 : decode cX11_isAlive 8 = .ok (.iaload, 1) := by decide +kernel
theorem dX11_isAlive_9 : decode cX11_isAlive 9 = .ok (.iconst 2, 1) := by decide +kernel
theorem dX11_isAlive_10 : decode cX11_isAlive 10 = .ok (.if_icmp .ge 7, 3) := by decide +kernel
theorem dX11_isAlive_13 : decode cX11_isAlive 13 = .ok (.iconst 1, 1) := by decide +kernel
theorem dX11_isAlive_14 : decode cX11_isAlive 14 = .ok (.goto 4, 3) := by decide +kernel
theorem dX11_isAlive_17 : decode cX11_isAlive 17 = .ok (.iconst 0, 1) := by decide +kernel
theorem dX11_isAlive_18 : decode cX11_isAlive 18 = .ok (.ireturn, 1) := by decide +kernel
theorem dX11_isCalled_0 : decode cX11_isCalled 0 = .ok (.aload_n 0, 1) := by decide +kernel
theorem dX11_isCalled_1 : decode cX11_isCalled 1 = .ok (.iload_n 1, 1) := by decide +kernel
theorem dX11_isCalled_2 : decode cX11_isCalled 2 = .ok (.invokestatic 64, 3) := by decide +kernel
theorem dX11_isCalled_5 : decode cX11_isCalled 5 = .ok (.ifCond .eq 31, 3) := by decide +kernel
theorem dX11_isCalled_8 : decode cX11_isCalled 8 = .ok (.aload_n 0, 1) := by decide +kernel
theorem dX11_isCalled_9 : decode cX11_isCalled 9 = .ok (.iload_n 1, 1) := by decide +kernel
theorem dX11_isCalled_10 : decode cX11_isCalled 10 = .ok (.invokestatic 61, 3) := by decide +kernel
theorem dX11_isCalled_13 : decode cX11_isCalled 13 = .ok (.iconst 0, 1) := by decide +kernel
theorem dX11_isCalled_14 : decode cX11_isCalled 14 = .ok (.iadd, 1) := by decide +kernel
theorem dX11_isCalled_15 : decode cX11_isCalled 15 = .ok (.iaload, 1) := by decide +kernel
theorem dX11_isCalled_16 : decode cX11_isCalled 16 = .ok (.iload_n 2, 1) := by decide +kernel
theorem dX11_isCalled_17 : decode cX11_isCalled 17 = .ok (.if_icmp .ne 19, 3) := by decide +kernel
theorem dX11_isCalled_20 : decode cX11_isCalled 20 = .ok (.aload_n 0, 1) := by decide +kernel
theorem dX11_isCalled_21 : decode cX11_isCalled 21 = .ok (.iload_n 1, 1) := by decide +kernel
theorem dX11_isCalled_22 : decode cX11_isCalled 22 = .ok (.invokestatic 61, 3) := by decide +kernel
theorem dX11_isCalled_25 : decode cX11_isCalled 25 = .ok (.iconst 1, 1) := by decide +kernel
theorem dX11_isCalled_26 : decode cX11_isCalled 26 = .ok (.iadd, 1) := by decide +kernel
theorem dX11_isCalled_27 : decode cX11_isCalled 27 = .ok (.iaload, 1) := by decide +kernel
theorem dX11_isCalled_28 : decode cX11_isCalled 28 = .ok (.iload_n 3, 1) := by decide +kernel
theorem dX11_isCalled_29 : decode cX11_isCalled 29 = .ok (.if_icmp .ne 7, 3) := by decide +kernel
theorem dX11_isCalled_32 : decode cX11_isCalled 32 = .ok (.iconst 1, 1) := by decide +kernel
theorem dX11_isCalled_33 : decode cX11_isCalled 33 = .ok (.goto 4, 3) := by decide +kernel
theorem dX11_isCalled_36 : decode cX11_isCalled 36 = .ok (.iconst 0, 1) := by decide +kernel
theorem dX11_isCalled_37 : decode cX11_isCalled 37 = .ok (.ireturn, 1) := by decide +kernel
theorem dX11_lives_0 : decode cX11_lives 0 = .ok (.iconst 0, 1) := by decide +kernel
theorem dX11_lives_1 : decode cX11_lives 1 = .ok (.istore_n 2, 1) := by decide +kernel
theorem dX11_lives_2 : decode cX11_lives 2 = .ok (.iconst 0, 1) := by decide +kernel
theorem dX11_lives_3 : decode cX11_lives 3 = .ok (.istore_n 3, 1) := by decide +kernel
theorem dX11_lives_4 : decode cX11_lives 4 = .ok (.iload_n 3, 1) := by decide +kernel
theorem dX11_lives_5 : decode cX11_lives 5 = .ok (.aload_n 0, 1) := by decide +kernel
theorem dX11_lives_6 : decode cX11_lives 6 = .ok (.sipush 381, 3) := by decide +kernel
theorem dX11_lives_9 : decode cX11_lives 9 = .ok (.iaload, 1) := by decide +kernel
theorem dX11_lives_10 : decode cX11_lives 10 = .ok (.if_icmp .ge 37, 3) := by decide +kernel
theorem dX11_lives_13 : decode cX11_lives 13 = .ok (.iload_n 2, 1) := by decide +kernel
theorem dX11_lives_14 : decode cX11_lives 14 = .ok (.aload_n 0, 1) := by decide +kernel
theorem dX11_lives_15 : decode cX11_lives 15 = .ok (.iload_n 3, 1) := by decide +kernel
theorem dX11_lives_16 : decode cX11_lives 16 = .ok (.invokestatic 64, 3) := by decide +kernel
theorem dX11_lives_19 : decode cX11_lives 19 = .ok (.ifCond .eq 19, 3) := by decide +kernel
theorem dX11_lives_22 : decode cX11_lives 22 = .ok (.aload_n 0, 1) := by decide +kernel
theorem dX11_lives_23 : decode cX11_lives 23 = .ok (.iload_n 3, 1) := by decide +kernel
theorem dX11_lives_24 : decode cX11_lives 24 = .ok (.invokestatic 61, 3) := by decide +kernel
theorem dX11_lives_27 : decode cX11_lives 27 = .ok (.iconst 3, 1) := by decide +kernel
theorem dX11_lives_28 : decode cX11_lives 28 = .ok (.iadd, 1) := by decide +kernel
theorem dX11_lives_29 : decode cX11_lives 29 = .ok (.iaload, 1) := by decide +kernel
theorem dX11_lives_30 : decode cX11_lives 30 = .ok (.iload_n 1, 1) := by decide +kernel
theorem dX11_lives_31 : decode cX11_lives 31 = .ok (.if_icmp .ne 7, 3) := by decide +kernel
theorem dX11_lives_34 : decode cX11_lives 34 = .ok (.iconst 1, 1) := by decide +kernel
theorem dX11_lives_35 : decode cX11_lives 35 = .ok (.goto 4, 3) := by decide +kernel
theorem dX11_lives_38 : decode cX11_lives 38 = .ok (.iconst 0, 1) := by decide +kernel
theorem dX11_lives_39 : decode cX11_lives 39 = .ok (.iadd, 1) := by decide +kernel
theorem dX11_lives_40 : decode cX11_lives 40 = .ok (.istore_n 2, 1) := by decide +kernel
theorem dX11_lives_41 : decode cX11_lives 41 = .ok (.iinc 3 1, 3) := by decide +kernel
theorem dX11_lives_44 : decode cX11_lives 44 = .ok (.goto (-40), 3) := by decide +kernel
theorem dX11_lives_47 : decode cX11_lives 47 = .ok (.iload_n 2, 1) := by decide +kernel
theorem dX11_lives_48 : decode cX11_lives 48 = .ok (.ireturn, 1) := by decide +kernel
theorem dX11_areBrothers_0 : decode cX11_areBrothers 0 = .ok (.iload_n 1, 1) := by decide +kernel
theorem dX11_areBrothers_1 : decode cX11_areBrothers 1 = .ok (.iload_n 2, 1) := by decide +kernel
theorem dX11_areBrothers_2 : decode cX11_areBrothers 2 = .ok (.if_icmp .eq 24, 3) := by decide +kernel
theorem dX11_areBrothers_5 : decode cX11_areBrothers 5 = .ok (.aload_n 0, 1) := by decide +kernel
theorem dX11_areBrothers_6 : decode cX11_areBrothers 6 = .ok (.iconst 5, 1) := by decide +kernel
theorem dX11_areBrothers_7 : decode cX11_areBrothers 7 = .ok (.iload_n 1, 1) := by decide +kernel
theorem dX11_areBrothers_8 : decode cX11_areBrothers 8 = .ok (.imul, 1) := by decide +kernel
theorem dX11_areBrothers_9 : decode cX11_areBrothers 9 = .ok (.iconst 1, 1) := by decide +kernel
theorem dX11_areBrothers_10 : decode cX11_areBrothers 10 = .ok (.iadd, 1) := by decide +kernel
theorem dX11_areBrothers_11 : decode cX11_areBrothers 11 = .ok (.iaload, 1) := by decide +kernel
theorem dX11_areBrothers_12 : decode cX11_areBrothers 12 = .ok (.aload_n 0, 1) := by decide +kernel
theorem dX11_areBrothers_13 : decode cX11_areBrothers 13 = .ok (.iconst 5, 1) := by decide +kernel
theorem dX11_areBrothers_14 : decode cX11_areBrothers 14 = .ok (.iload_n 2, 1) := by decide +kernel
theorem dX11_areBrothers_15 : decode cX11_areBrothers 15 = .ok (.imul, 1) := by decide +kernel
theorem dX11_areBrothers_16 : decode cX11_areBrothers 16 = .ok (.iconst 1, 1) := by decide +kernel
theorem dX11_areBrothers_17 : decode cX11_areBrothers 17 = .ok (.iadd, 1) := by decide +kernel
theorem dX11_areBrothers_18 : decode cX11_areBrothers 18 = .ok (.iaload, 1) := by decide +kernel
theorem dX11_areBrothers_19 : decode cX11_areBrothers 19 = .ok (.if_icmp .ne 7, 3) := by decide +kernel
theorem dX11_areBrothers_22 : decode cX11_areBrothers 22 = .ok (.iconst 1, 1) := by decide +kernel
theorem dX11_areBrothers_23 : decode cX11_areBrothers 23 = .ok (.goto 4, 3) := by decide +kernel
theorem dX11_areBrothers_26 : decode cX11_areBrothers 26 = .ok (.iconst 0, 1) := by decide +kernel
theorem dX11_areBrothers_27 : decode cX11_areBrothers 27 = .ok (.ireturn, 1) := by decide +kernel
theorem dX11_benchOf_0 : decode cX11_benchOf 0 = .ok (.aload_n 0, 1) := by decide +kernel
theorem dX11_benchOf_1 : decode cX11_benchOf 1 = .ok (.iconst 5, 1) := by decide +kernel
theorem dX11_benchOf_2 : decode cX11_benchOf 2 = .ok (.iload_n 1, 1) := by decide +kernel
theorem dX11_benchOf_3 : decode cX11_benchOf 3 = .ok (.imul, 1) := by decide +kernel
theorem dX11_benchOf_4 : decode cX11_benchOf 4 = .ok (.iconst 2, 1) := by decide +kernel
theorem dX11_benchOf_5 : decode cX11_benchOf 5 = .ok (.iadd, 1) := by decide +kernel
theorem dX11_benchOf_6 : decode cX11_benchOf 6 = .ok (.iaload, 1) := by decide +kernel
theorem dX11_benchOf_7 : decode cX11_benchOf 7 = .ok (.ireturn, 1) := by decide +kernel
theorem dX11_nameOn_0 : decode cX11_nameOn 0 = .ok (.iconst 0, 1) := by decide +kernel
theorem dX11_nameOn_1 : decode cX11_nameOn 1 = .ok (.istore 5, 2) := by decide +kernel
theorem dX11_nameOn_3 : decode cX11_nameOn 3 = .ok (.iload 5, 2) := by decide +kernel
theorem dX11_nameOn_5 : decode cX11_nameOn 5 = .ok (.aload_n 0, 1) := by decide +kernel
theorem dX11_nameOn_6 : decode cX11_nameOn 6 = .ok (.sipush 381, 3) := by decide +kernel
theorem dX11_nameOn_9 : decode cX11_nameOn 9 = .ok (.iaload, 1) := by decide +kernel
theorem dX11_nameOn_10 : decode cX11_nameOn 10 = .ok (.if_icmp .ge 51, 3) := by decide +kernel
theorem dX11_nameOn_13 : decode cX11_nameOn 13 = .ok (.aload_n 0, 1) := by decide +kernel
theorem dX11_nameOn_14 : decode cX11_nameOn 14 = .ok (.iload 5, 2) := by decide +kernel
theorem dX11_nameOn_16 : decode cX11_nameOn 16 = .ok (.invokestatic 61, 3) := by decide +kernel
theorem dX11_nameOn_19 : decode cX11_nameOn 19 = .ok (.iconst 3, 1) := by decide +kernel
theorem dX11_nameOn_20 : decode cX11_nameOn 20 = .ok (.iadd, 1) := by decide +kernel
theorem dX11_nameOn_21 : decode cX11_nameOn 21 = .ok (.iaload, 1) := by decide +kernel
theorem dX11_nameOn_22 : decode cX11_nameOn 22 = .ok (.istore 6, 2) := by decide +kernel
theorem dX11_nameOn_24 : decode cX11_nameOn 24 = .ok (.aload_n 0, 1) := by decide +kernel
theorem dX11_nameOn_25 : decode cX11_nameOn 25 = .ok (.iload 5, 2) := by decide +kernel
theorem dX11_nameOn_27 : decode cX11_nameOn 27 = .ok (.iload_n 3, 1) := by decide +kernel
theorem dX11_nameOn_28 : decode cX11_nameOn 28 = .ok (.iload 4, 2) := by decide +kernel
theorem dX11_nameOn_30 : decode cX11_nameOn 30 = .ok (.invokestatic 68, 3) := by decide +kernel
theorem dX11_nameOn_33 : decode cX11_nameOn 33 = .ok (.ifCond .eq 22, 3) := by decide +kernel
theorem dX11_nameOn_36 : decode cX11_nameOn 36 = .ok (.aload_n 0, 1) := by decide +kernel
theorem dX11_nameOn_37 : decode cX11_nameOn 37 = .ok (.iload 6, 2) := by decide +kernel
theorem dX11_nameOn_39 : decode cX11_nameOn 39 = .ok (.invokestatic 72, 3) := by decide +kernel
theorem dX11_nameOn_42 : decode cX11_nameOn 42 = .ok (.iload_n 1, 1) := by decide +kernel
theorem dX11_nameOn_43 : decode cX11_nameOn 43 = .ok (.if_icmp .ne 12, 3) := by decide +kernel
theorem dX11_nameOn_46 : decode cX11_nameOn 46 = .ok (.iload 6, 2) := by decide +kernel
theorem dX11_nameOn_48 : decode cX11_nameOn 48 = .ok (.iload_n 2, 1) := by decide +kernel
theorem dX11_nameOn_49 : decode cX11_nameOn 49 = .ok (.if_icmp .eq 6, 3) := by decide +kernel
theorem dX11_nameOn_52 : decode cX11_nameOn 52 = .ok (.iload 5, 2) := by decide +kernel
theorem dX11_nameOn_54 : decode cX11_nameOn 54 = .ok (.ireturn, 1) := by decide +kernel
theorem dX11_nameOn_55 : decode cX11_nameOn 55 = .ok (.iinc 5 1, 3) := by decide +kernel
theorem dX11_nameOn_58 : decode cX11_nameOn 58 = .ok (.goto (-55), 3) := by decide +kernel
theorem dX11_nameOn_61 : decode cX11_nameOn 61 = .ok (.iconst (-1), 1) := by decide +kernel
theorem dX11_nameOn_62 : decode cX11_nameOn 62 = .ok (.ireturn, 1) := by decide +kernel
theorem dX11_whyNot_0 : decode cX11_whyNot 0 = .ok (.iload_n 1, 1) := by decide +kernel
theorem dX11_whyNot_1 : decode cX11_whyNot 1 = .ok (.iload_n 2, 1) := by decide +kernel
theorem dX11_whyNot_2 : decode cX11_whyNot 2 = .ok (.if_icmp .ne 5, 3) := by decide +kernel
theorem dX11_whyNot_5 : decode cX11_whyNot 5 = .ok (.iconst 1, 1) := by decide +kernel
theorem dX11_whyNot_6 : decode cX11_whyNot 6 = .ok (.ireturn, 1) := by decide +kernel
theorem dX11_whyNot_7 : decode cX11_whyNot 7 = .ok (.aload_n 0, 1) := by decide +kernel
theorem dX11_whyNot_8 : decode cX11_whyNot 8 = .ok (.iload_n 1, 1) := by decide +kernel
theorem dX11_whyNot_9 : decode cX11_whyNot 9 = .ok (.iload_n 2, 1) := by decide +kernel
theorem dX11_whyNot_10 : decode cX11_whyNot 10 = .ok (.invokestatic 76, 3) := by decide +kernel
theorem dX11_whyNot_13 : decode cX11_whyNot 13 = .ok (.ifCond .ne 18, 3) := by decide +kernel
theorem dX11_whyNot_16 : decode cX11_whyNot 16 = .ok (.aload_n 0, 1) := by decide +kernel
theorem dX11_whyNot_17 : decode cX11_whyNot 17 = .ok (.iload_n 1, 1) := by decide +kernel
theorem dX11_whyNot_18 : decode cX11_whyNot 18 = .ok (.invokestatic 72, 3) := by decide +kernel
theorem dX11_whyNot_21 : decode cX11_whyNot 21 = .ok (.aload_n 0, 1) := by decide +kernel
theorem dX11_whyNot_22 : decode cX11_whyNot 22 = .ok (.iload_n 2, 1) := by decide +kernel
theorem dX11_whyNot_23 : decode cX11_whyNot 23 = .ok (.invokestatic 72, 3) := by decide +kernel
theorem dX11_whyNot_26 : decode cX11_whyNot 26 = .ok (.if_icmp .eq 5, 3) := by decide +kernel
theorem dX11_whyNot_29 : decode cX11_whyNot 29 = .ok (.iconst 2, 1) := by decide +kernel
theorem dX11_whyNot_30 : decode cX11_whyNot 30 = .ok (.ireturn, 1) := by decide +kernel
theorem dX11_whyNot_31 : decode cX11_whyNot 31 = .ok (.aload_n 0, 1) := by decide +kernel
theorem dX11_whyNot_32 : decode cX11_whyNot 32 = .ok (.iload_n 2, 1) := by decide +kernel
theorem dX11_whyNot_33 : decode cX11_whyNot 33 = .ok (.invokestatic 80, 3) := by decide +kernel
theorem dX11_whyNot_36 : decode cX11_whyNot 36 = .ok (.iconst 3, 1) := by decide +kernel
theorem dX11_whyNot_37 : decode cX11_whyNot 37 = .ok (.if_icmp .lt 5, 3) := by decide +kernel
theorem dX11_whyNot_40 : decode cX11_whyNot 40 = .ok (.iconst 3, 1) := by decide +kernel
theorem dX11_whyNot_41 : decode cX11_whyNot 41 = .ok (.ireturn, 1) := by decide +kernel
theorem dX11_whyNot_42 : decode cX11_whyNot 42 = .ok (.aload_n 0, 1) := by decide +kernel
theorem dX11_whyNot_43 : decode cX11_whyNot 43 = .ok (.aload_n 0, 1) := by decide +kernel
theorem dX11_whyNot_44 : decode cX11_whyNot 44 = .ok (.iload_n 2, 1) := by decide +kernel
theorem dX11_whyNot_45 : decode cX11_whyNot 45 = .ok (.invokestatic 72, 3) := by decide +kernel
theorem dX11_whyNot_48 : decode cX11_whyNot 48 = .ok (.iconst (-1), 1) := by decide +kernel
theorem dX11_whyNot_49 : decode cX11_whyNot 49 = .ok (.iload_n 3, 1) := by decide +kernel
theorem dX11_whyNot_50 : decode cX11_whyNot 50 = .ok (.iload 4, 2) := by decide +kernel
theorem dX11_whyNot_52 : decode cX11_whyNot 52 = .ok (.invokestatic 83, 3) := by decide +kernel
theorem dX11_whyNot_55 : decode cX11_whyNot 55 = .ok (.iconst (-1), 1) := by decide +kernel
theorem dX11_whyNot_56 : decode cX11_whyNot 56 = .ok (.if_icmp .eq 7, 3) := by decide +kernel
theorem dX11_whyNot_59 : decode cX11_whyNot 59 = .ok (.iconst 4, 1) := by decide +kernel
theorem dX11_whyNot_60 : decode cX11_whyNot 60 = .ok (.goto 18, 3) := by decide +kernel
theorem dX11_whyNot_63 : decode cX11_whyNot 63 = .ok (.aload_n 0, 1) := by decide +kernel
theorem dX11_whyNot_64 : decode cX11_whyNot 64 = .ok (.sipush 381, 3) := by decide +kernel
theorem dX11_whyNot_67 : decode cX11_whyNot 67 = .ok (.iaload, 1) := by decide +kernel
theorem dX11_whyNot_68 : decode cX11_whyNot 68 = .ok (.bipush 40, 2) := by decide +kernel
theorem dX11_whyNot_70 : decode cX11_whyNot 70 = .ok (.if_icmp .ne 7, 3) := by decide +kernel
theorem dX11_whyNot_73 : decode cX11_whyNot 73 = .ok (.iconst 5, 1) := by decide +kernel
theorem dX11_whyNot_74 : decode cX11_whyNot 74 = .ok (.goto 4, 3) := by decide +kernel
theorem dX11_whyNot_77 : decode cX11_whyNot 77 = .ok (.iconst 0, 1) := by decide +kernel
theorem dX11_whyNot_78 : decode cX11_whyNot 78 = .ok (.ireturn, 1) := by decide +kernel
theorem dX11_add_0 : decode cX11_add 0 = .ok (.aload_n 0, 1) := by decide +kernel
theorem dX11_add_1 : decode cX11_add 1 = .ok (.sipush 381, 3) := by decide +kernel
theorem dX11_add_4 : decode cX11_add 4 = .ok (.iaload, 1) := by decide +kernel
theorem dX11_add_5 : decode cX11_add 5 = .ok (.invokestatic 61, 3) := by decide +kernel
theorem dX11_add_8 : decode cX11_add 8 = .ok (.istore 5, 2) := by decide +kernel
theorem dX11_add_10 : decode cX11_add 10 = .ok (.aload_n 0, 1) := by decide +kernel
theorem dX11_add_11 : decode cX11_add 11 = .ok (.iload 5, 2) := by decide +kernel
theorem dX11_add_13 : decode cX11_add 13 = .ok (.iconst 0, 1) := by decide +kernel
theorem dX11_add_14 : decode cX11_add 14 = .ok (.iadd, 1) := by decide +kernel
theorem dX11_add_15 : decode cX11_add 15 = .ok (.iload_n 3, 1) := by decide +kernel
theorem dX11_add_16 : decode cX11_add 16 = .ok (.iastore, 1) := by decide +kernel
theorem dX11_add_17 : decode cX11_add 17 = .ok (.aload_n 0, 1) := by decide +kernel
theorem dX11_add_18 : decode cX11_add 18 = .ok (.iload 5, 2) := by decide +kernel
theorem dX11_add_20 : decode cX11_add 20 = .ok (.iconst 1, 1) := by decide +kernel
theorem dX11_add_21 : decode cX11_add 21 = .ok (.iadd, 1) := by decide +kernel
theorem dX11_add_22 : decode cX11_add 22 = .ok (.iload 4, 2) := by decide +kernel
theorem dX11_add_24 : decode cX11_add 24 = .ok (.iastore, 1) := by decide +kernel
theorem dX11_add_25 : decode cX11_add 25 = .ok (.aload_n 0, 1) := by decide +kernel
theorem dX11_add_26 : decode cX11_add 26 = .ok (.iload 5, 2) := by decide +kernel
theorem dX11_add_28 : decode cX11_add 28 = .ok (.iconst 2, 1) := by decide +kernel
theorem dX11_add_29 : decode cX11_add 29 = .ok (.iadd, 1) := by decide +kernel
theorem dX11_add_30 : decode cX11_add 30 = .ok (.iload_n 1, 1) := by decide +kernel
theorem dX11_add_31 : decode cX11_add 31 = .ok (.iastore, 1) := by decide +kernel
theorem dX11_add_32 : decode cX11_add 32 = .ok (.aload_n 0, 1) := by decide +kernel
theorem dX11_add_33 : decode cX11_add 33 = .ok (.iload 5, 2) := by decide +kernel
theorem dX11_add_35 : decode cX11_add 35 = .ok (.iconst 3, 1) := by decide +kernel
theorem dX11_add_36 : decode cX11_add 36 = .ok (.iadd, 1) := by decide +kernel
theorem dX11_add_37 : decode cX11_add 37 = .ok (.iload_n 2, 1) := by decide +kernel
theorem dX11_add_38 : decode cX11_add 38 = .ok (.iastore, 1) := by decide +kernel
theorem dX11_add_39 : decode cX11_add 39 = .ok (.aload_n 0, 1) := by decide +kernel
theorem dX11_add_40 : decode cX11_add 40 = .ok (.iload 5, 2) := by decide +kernel
theorem dX11_add_42 : decode cX11_add 42 = .ok (.iconst 4, 1) := by decide +kernel
theorem dX11_add_43 : decode cX11_add 43 = .ok (.iadd, 1) := by decide +kernel
theorem dX11_add_44 : decode cX11_add 44 = .ok (.iconst 0, 1) := by decide +kernel
theorem dX11_add_45 : decode cX11_add 45 = .ok (.iastore, 1) := by decide +kernel
theorem dX11_add_46 : decode cX11_add 46 = .ok (.aload_n 0, 1) := by decide +kernel
theorem dX11_add_47 : decode cX11_add 47 = .ok (.iload 5, 2) := by decide +kernel
theorem dX11_add_49 : decode cX11_add 49 = .ok (.iconst 5, 1) := by decide +kernel
theorem dX11_add_50 : decode cX11_add 50 = .ok (.iadd, 1) := by decide +kernel
theorem dX11_add_51 : decode cX11_add 51 = .ok (.aload_n 0, 1) := by decide +kernel
theorem dX11_add_52 : decode cX11_add 52 = .ok (.sipush 382, 3) := by decide +kernel
theorem dX11_add_55 : decode cX11_add 55 = .ok (.iaload, 1) := by decide +kernel
theorem dX11_add_56 : decode cX11_add 56 = .ok (.iastore, 1) := by decide +kernel
theorem dX11_add_57 : decode cX11_add 57 = .ok (.aload_n 0, 1) := by decide +kernel
theorem dX11_add_58 : decode cX11_add 58 = .ok (.iload 5, 2) := by decide +kernel
theorem dX11_add_60 : decode cX11_add 60 = .ok (.bipush 6, 2) := by decide +kernel
theorem dX11_add_62 : decode cX11_add 62 = .ok (.iadd, 1) := by decide +kernel
theorem dX11_add_63 : decode cX11_add 63 = .ok (.iconst 0, 1) := by decide +kernel
theorem dX11_add_64 : decode cX11_add 64 = .ok (.iastore, 1) := by decide +kernel
theorem dX11_add_65 : decode cX11_add 65 = .ok (.aload_n 0, 1) := by decide +kernel
theorem dX11_add_66 : decode cX11_add 66 = .ok (.iload 5, 2) := by decide +kernel
theorem dX11_add_68 : decode cX11_add 68 = .ok (.bipush 7, 2) := by decide +kernel
theorem dX11_add_70 : decode cX11_add 70 = .ok (.iadd, 1) := by decide +kernel
theorem dX11_add_71 : decode cX11_add 71 = .ok (.iconst 0, 1) := by decide +kernel
theorem dX11_add_72 : decode cX11_add 72 = .ok (.iastore, 1) := by decide +kernel
theorem dX11_add_73 : decode cX11_add 73 = .ok (.aload_n 0, 1) := by decide +kernel
theorem dX11_add_74 : decode cX11_add 74 = .ok (.sipush 381, 3) := by decide +kernel
theorem dX11_add_77 : decode cX11_add 77 = .ok (.dup2, 1) := by decide +kernel
theorem dX11_add_78 : decode cX11_add 78 = .ok (.iaload, 1) := by decide +kernel
theorem dX11_add_79 : decode cX11_add 79 = .ok (.iconst 1, 1) := by decide +kernel
theorem dX11_add_80 : decode cX11_add 80 = .ok (.iadd, 1) := by decide +kernel
theorem dX11_add_81 : decode cX11_add 81 = .ok (.iastore, 1) := by decide +kernel
theorem dX11_add_82 : decode cX11_add 82 = .ok (.return_, 1) := by decide +kernel
theorem dX11_goGive_0 : decode cX11_goGive 0 = .ok (.aload_n 0, 1) := by decide +kernel
theorem dX11_goGive_1 : decode cX11_goGive 1 = .ok (.iload_n 1, 1) := by decide +kernel
theorem dX11_goGive_2 : decode cX11_goGive 2 = .ok (.iload_n 2, 1) := by decide +kernel
theorem dX11_goGive_3 : decode cX11_goGive 3 = .ok (.iload_n 3, 1) := by decide +kernel
theorem dX11_goGive_4 : decode cX11_goGive 4 = .ok (.iload 4, 2) := by decide +kernel
theorem dX11_goGive_6 : decode cX11_goGive 6 = .ok (.invokestatic 87, 3) := by decide +kernel
theorem dX11_goGive_9 : decode cX11_goGive 9 = .ok (.istore 5, 2) := by decide +kernel
theorem dX11_goGive_11 : decode cX11_goGive 11 = .ok (.iload 5, 2) := by decide +kernel
theorem dX11_goGive_13 : decode cX11_goGive 13 = .ok (.ifCond .ne 15, 3) := by decide +kernel
theorem dX11_goGive_16 : decode cX11_goGive 16 = .ok (.aload_n 0, 1) := by decide +kernel
theorem dX11_goGive_17 : decode cX11_goGive 17 = .ok (.iload_n 1, 1) := by decide +kernel
theorem dX11_goGive_18 : decode cX11_goGive 18 = .ok (.iload_n 2, 1) := by decide +kernel
theorem dX11_goGive_19 : decode cX11_goGive 19 = .ok (.iload_n 3, 1) := by decide +kernel
theorem dX11_goGive_20 : decode cX11_goGive 20 = .ok (.iload 4, 2) := by decide +kernel
theorem dX11_goGive_22 : decode cX11_goGive 22 = .ok (.invokestatic 90, 3) := by decide +kernel
theorem dX11_goGive_25 : decode cX11_goGive 25 = .ok (.goto 12, 3) := by decide +kernel
theorem dX11_goGive_28 : decode cX11_goGive 28 = .ok (.aload_n 0, 1) := by decide +kernel
theorem dX11_goGive_29 : decode cX11_goGive 29 = .ok (.sipush 385, 3) := by decide +kernel
theorem dX11_goGive_32 : decode cX11_goGive 32 = .ok (.dup2, 1) := by decide +kernel
theorem dX11_goGive_33 : decode cX11_goGive 33 = .ok (.iaload, 1) := by decide +kernel
theorem dX11_goGive_34 : decode cX11_goGive 34 = .ok (.iconst 1, 1) := by decide +kernel
theorem dX11_goGive_35 : decode cX11_goGive 35 = .ok (.iadd, 1) := by decide +kernel
theorem dX11_goGive_36 : decode cX11_goGive 36 = .ok (.iastore, 1) := by decide +kernel
theorem dX11_goGive_37 : decode cX11_goGive 37 = .ok (.iload 5, 2) := by decide +kernel
theorem dX11_goGive_39 : decode cX11_goGive 39 = .ok (.ireturn, 1) := by decide +kernel
theorem dX11_brothersName_0 : decode cX11_brothersName 0 = .ok (.iconst (-1), 1) := by decide +kernel
theorem dX11_brothersName_1 : decode cX11_brothersName 1 = .ok (.istore 4, 2) := by decide +kernel
theorem dX11_brothersName_3 : decode cX11_brothersName 3 = .ok (.iconst 0, 1) := by decide +kernel
theorem dX11_brothersName_4 : decode cX11_brothersName 4 = .ok (.istore 5, 2) := by decide +kernel
theorem dX11_brothersName_6 : decode cX11_brothersName 6 = .ok (.iload 5, 2) := by decide +kernel
theorem dX11_brothersName_8 : decode cX11_brothersName 8 = .ok (.aload_n 0, 1) := by decide +kernel
theorem dX11_brothersName_9 : decode cX11_brothersName 9 = .ok (.sipush 381, 3) := by decide +kernel
theorem dX11_brothersName_12 : decode cX11_brothersName 12 = .ok (.iaload, 1) := by decide +kernel
theorem dX11_brothersName_13 : decode cX11_brothersName 13 = .ok (.if_icmp .ge 82, 3) := by decide +kernel
theorem dX11_brothersName_16 : decode cX11_brothersName 16 = .ok (.aload_n 0, 1) := by decide +kernel
theorem dX11_brothersName_17 : decode cX11_brothersName 17 = .ok (.iload 5, 2) := by decide +kernel
theorem dX11_brothersName_19 : decode cX11_brothersName 19 = .ok (.invokestatic 61, 3) := by decide +kernel
theorem dX11_brothersName_22 : decode cX11_brothersName 22 = .ok (.iconst 3, 1) := by decide +kernel
theorem dX11_brothersName_23 : decode cX11_brothersName 23 = .ok (.iadd, 1) := by decide +kernel
theorem dX11_brothersName_24 : decode cX11_brothersName 24 = .ok (.iaload, 1) := by decide +kernel
theorem dX11_brothersName_25 : decode cX11_brothersName 25 = .ok (.istore 6, 2) := by decide +kernel
theorem dX11_brothersName_27 : decode cX11_brothersName 27 = .ok (.aload_n 0, 1) := by decide +kernel
theorem dX11_brothersName_28 : decode cX11_brothersName 28 = .ok (.iload 5, 2) := by decide +kernel
theorem dX11_brothersName_30 : decode cX11_brothersName 30 = .ok (.iload_n 2, 1) := by decide +kernel
theorem dX11_brothersName_31 : decode cX11_brothersName 31 = .ok (.iload_n 3, 1) := by decide +kernel
theorem dX11_brothersName_32 : decode cX11_brothersName 32 = .ok (.invokestatic 68, 3) := by decide +kernel
theorem dX11_brothersName_35 : decode cX11_brothersName 35 = .ok (.ifCond .eq 17, 3) := by decide +kernel
theorem dX11_brothersName_38 : decode cX11_brothersName 38 = .ok (.aload_n 0, 1) := by decide +kernel
theorem dX11_brothersName_39 : decode cX11_brothersName 39 = .ok (.iload_n 1, 1) := by decide +kernel
theorem dX11_brothersName_40 : decode cX11_brothersName 40 = .ok (.iload 6, 2) := by decide +kernel
theorem dX11_brothersName_42 : decode cX11_brothersName 42 = .ok (.invokestatic 76, 3) := by decide +kernel
theorem dX11_brothersName_45 : decode cX11_brothersName 45 = .ok (.ifCond .eq 7, 3) := by decide +kernel
theorem dX11_brothersName_48 : decode cX11_brothersName 48 = .ok (.iconst 1, 1) := by decide +kernel
theorem dX11_brothersName_49 : decode cX11_brothersName 49 = .ok (.goto 4, 3) := by decide +kernel
theorem dX11_brothersName_52 : decode cX11_brothersName 52 = .ok (.iconst 0, 1) := by decide +kernel
theorem dX11_brothersName_53 : decode cX11_brothersName 53 = .ok (.istore 7, 2) := by decide +kernel
theorem dX11_brothersName_55 : decode cX11_brothersName 55 = .ok (.iload 7, 2) := by decide +kernel
theorem dX11_brothersName_57 : decode cX11_brothersName 57 = .ok (.ifCond .eq 28, 3) := by decide +kernel
theorem dX11_brothersName_60 : decode cX11_brothersName 60 = .ok (.iload 4, 2) := by decide +kernel
theorem dX11_brothersName_62 : decode cX11_brothersName 62 = .ok (.iconst (-1), 1) := by decide +kernel
theorem dX11_brothersName_63 : decode cX11_brothersName 63 = .ok (.if_icmp .eq 17, 3) := by decide +kernel
theorem dX11_brothersName_66 : decode cX11_brothersName 66 = .ok (.iload 6, 2) := by decide +kernel
theorem dX11_brothersName_68 : decode cX11_brothersName 68 = .ok (.aload_n 0, 1) := by decide +kernel
theorem dX11_brothersName_69 : decode cX11_brothersName 69 = .ok (.iload 4, 2) := by decide +kernel
theorem dX11_brothersName_71 : decode cX11_brothersName 71 = .ok (.invokestatic 61, 3) := by decide +kernel
theorem dX11_brothersName_74 : decode cX11_brothersName 74 = .ok (.iconst 3, 1) := by decide +kernel
theorem dX11_brothersName_75 : decode cX11_brothersName 75 = .ok (.iadd, 1) := by decide +kernel
theorem dX11_brothersName_76 : decode cX11_brothersName 76 = .ok (.iaload, 1) := by decide +kernel
theorem dX11_brothersName_77 : decode cX11_brothersName 77 = .ok (.if_icmp .ge 8, 3) := by decide +kernel
theorem dX11_brothersName_80 : decode cX11_brothersName 80 = .ok (.iload 5, 2) := by decide +kernel
theorem dX11_brothersName_82 : decode cX11_brothersName 82 = .ok (.goto 5, 3) := by decide +kernel
theorem dX11_brothersName_85 : decode cX11_brothersName 85 = .ok (.iload 4, 2) := by decide +kernel
theorem dX11_brothersName_87 : decode cX11_brothersName 87 = .ok (.istore 4, 2) := by decide +kernel
theorem dX11_brothersName_89 : decode cX11_brothersName 89 = .ok (.iinc 5 1, 3) := by decide +kernel
theorem dX11_brothersName_92 : decode cX11_brothersName 92 = .ok (.goto (-86), 3) := by decide +kernel
theorem dX11_brothersName_95 : decode cX11_brothersName 95 = .ok (.iload 4, 2) := by decide +kernel
theorem dX11_brothersName_97 : decode cX11_brothersName 97 = .ok (.ireturn, 1) := by decide +kernel
theorem dX11_lowestMixed_0 : decode cX11_lowestMixed 0 = .ok (.iconst 0, 1) := by decide +kernel
theorem dX11_lowestMixed_1 : decode cX11_lowestMixed 1 = .ok (.istore 4, 2) := by decide +kernel
theorem dX11_lowestMixed_3 : decode cX11_lowestMixed 3 = .ok (.iload 4, 2) := by decide +kernel
theorem dX11_lowestMixed_5 : decode cX11_lowestMixed 5 = .ok (.aload_n 0, 1) := by decide +kernel
theorem dX11_lowestMixed_6 : decode cX11_lowestMixed 6 = .ok (.sipush 380, 3) := by decide +kernel
theorem dX11_lowestMixed_9 : decode cX11_lowestMixed 9 = .ok (.iaload, 1) := by decide +kernel
theorem dX11_lowestMixed_10 : decode cX11_lowestMixed 10 = .ok (.if_icmp .ge 34, 3) := by decide +kernel
theorem dX11_lowestMixed_13 : decode cX11_lowestMixed 13 = .ok (.aload_n 0, 1) := by decide +kernel
theorem dX11_lowestMixed_14 : decode cX11_lowestMixed 14 = .ok (.iload 4, 2) := by decide +kernel
theorem dX11_lowestMixed_16 : decode cX11_lowestMixed 16 = .ok (.invokestatic 72, 3) := by decide +kernel
theorem dX11_lowestMixed_19 : decode cX11_lowestMixed 19 = .ok (.iload_n 1, 1) := by decide +kernel
theorem dX11_lowestMixed_20 : decode cX11_lowestMixed 20 = .ok (.if_icmp .ne 18, 3) := by decide +kernel
theorem dX11_lowestMixed_23 : decode cX11_lowestMixed 23 = .ok (.aload_n 0, 1) := by decide +kernel
theorem dX11_lowestMixed_24 : decode cX11_lowestMixed 24 = .ok (.iload 4, 2) := by decide +kernel
theorem dX11_lowestMixed_26 : decode cX11_lowestMixed 26 = .ok (.iload_n 2, 1) := by decide +kernel
theorem dX11_lowestMixed_27 : decode cX11_lowestMixed 27 = .ok (.iload_n 3, 1) := by decide +kernel
theorem dX11_lowestMixed_28 : decode cX11_lowestMixed 28 = .ok (.invokestatic 94, 3) := by decide +kernel
theorem dX11_lowestMixed_31 : decode cX11_lowestMixed 31 = .ok (.iconst (-1), 1) := by decide +kernel
theorem dX11_lowestMixed_32 : decode cX11_lowestMixed 32 = .ok (.if_icmp .eq 6, 3) := by decide +kernel
theorem dX11_lowestMixed_35 : decode cX11_lowestMixed 35 = .ok (.iload 4, 2) := by decide +kernel
theorem dX11_lowestMixed_37 : decode cX11_lowestMixed 37 = .ok (.ireturn, 1) := by decide +kernel
theorem dX11_lowestMixed_38 : decode cX11_lowestMixed 38 = .ok (.iinc 4 1, 3) := by decide +kernel
theorem dX11_lowestMixed_41 : decode cX11_lowestMixed 41 = .ok (.goto (-38), 3) := by decide +kernel
theorem dX11_lowestMixed_44 : decode cX11_lowestMixed 44 = .ok (.iconst (-1), 1) := by decide +kernel
theorem dX11_lowestMixed_45 : decode cX11_lowestMixed 45 = .ok (.ireturn, 1) := by decide +kernel
theorem dX11_means_0 : decode cX11_means 0 = .ok (.aload_n 0, 1) := by decide +kernel
theorem dX11_means_1 : decode cX11_means 1 = .ok (.iload_n 1, 1) := by decide +kernel
theorem dX11_means_2 : decode cX11_means 2 = .ok (.iconst (-1), 1) := by decide +kernel
theorem dX11_means_3 : decode cX11_means 3 = .ok (.iload_n 2, 1) := by decide +kernel
theorem dX11_means_4 : decode cX11_means 4 = .ok (.iload_n 3, 1) := by decide +kernel
theorem dX11_means_5 : decode cX11_means 5 = .ok (.invokestatic 83, 3) := by decide +kernel
theorem dX11_means_8 : decode cX11_means 8 = .ok (.istore 4, 2) := by decide +kernel
theorem dX11_means_10 : decode cX11_means 10 = .ok (.iload 4, 2) := by decide +kernel
theorem dX11_means_12 : decode cX11_means 12 = .ok (.iconst (-1), 1) := by decide +kernel
theorem dX11_means_13 : decode cX11_means 13 = .ok (.if_icmp .eq 15, 3) := by decide +kernel
theorem dX11_means_16 : decode cX11_means 16 = .ok (.aload_n 0, 1) := by decide +kernel
theorem dX11_means_17 : decode cX11_means 17 = .ok (.iload 4, 2) := by decide +kernel
theorem dX11_means_19 : decode cX11_means 19 = .ok (.invokestatic 61, 3) := by decide +kernel
theorem dX11_means_22 : decode cX11_means 22 = .ok (.iconst 3, 1) := by decide +kernel
theorem dX11_means_23 : decode cX11_means 23 = .ok (.iadd, 1) := by decide +kernel
theorem dX11_means_24 : decode cX11_means 24 = .ok (.iaload, 1) := by decide +kernel
theorem dX11_means_25 : decode cX11_means 25 = .ok (.goto 10, 3) := by decide +kernel
theorem dX11_means_28 : decode cX11_means 28 = .ok (.aload_n 0, 1) := by decide +kernel
theorem dX11_means_29 : decode cX11_means 29 = .ok (.iload_n 1, 1) := by decide +kernel
theorem dX11_means_30 : decode cX11_means 30 = .ok (.iload_n 2, 1) := by decide +kernel
theorem dX11_means_31 : decode cX11_means 31 = .ok (.iload_n 3, 1) := by decide +kernel
theorem dX11_means_32 : decode cX11_means 32 = .ok (.invokestatic 98, 3) := by decide +kernel
theorem dX11_means_35 : decode cX11_means 35 = .ok (.ireturn, 1) := by decide +kernel
theorem dX11_goCall_0 : decode cX11_goCall 0 = .ok (.aload_n 0, 1) := by decide +kernel
theorem dX11_goCall_1 : decode cX11_goCall 1 = .ok (.iload_n 1, 1) := by decide +kernel
theorem dX11_goCall_2 : decode cX11_goCall 2 = .ok (.iconst (-1), 1) := by decide +kernel
theorem dX11_goCall_3 : decode cX11_goCall 3 = .ok (.iload_n 2, 1) := by decide +kernel
theorem dX11_goCall_4 : decode cX11_goCall 4 = .ok (.iload_n 3, 1) := by decide +kernel
theorem dX11_goCall_5 : decode cX11_goCall 5 = .ok (.invokestatic 83, 3) := by decide +kernel
theorem dX11_goCall_8 : decode cX11_goCall 8 = .ok (.istore 4, 2) := by decide +kernel
theorem dX11_goCall_10 : decode cX11_goCall 10 = .ok (.iload 4, 2) := by decide +kernel
theorem dX11_goCall_12 : decode cX11_goCall 12 = .ok (.iconst (-1), 1) := by decide +kernel
theorem dX11_goCall_13 : decode cX11_goCall 13 = .ok (.if_icmp .eq 115, 3) := by decide +kernel
theorem dX11_goCall_16 : decode cX11_goCall 16 = .ok (.iload 4, 2) := by decide +kernel
theorem dX11_goCall_18 : decode cX11_goCall 18 = .ok (.invokestatic 61, 3) := by decide +kernel
theorem dX11_goCall_21 : decode cX11_goCall 21 = .ok (.istore 5, 2) := by decide +kernel
theorem dX11_goCall_23 : decode cX11_goCall 23 = .ok (.aload_n 0, 1) := by decide +kernel
theorem dX11_goCall_24 : decode cX11_goCall 24 = .ok (.iload 5, 2) := by decide +kernel
theorem dX11_goCall_26 : decode cX11_goCall 26 = .ok (.iconst 4, 1) := by decide +kernel
theorem dX11_goCall_27 : decode cX11_goCall 27 = .ok (.iadd, 1) := by decide +kernel
theorem dX11_goCall_28 : decode cX11_goCall 28 = .ok (.dup2, 1) := by decide +kernel
theorem dX11_goCall_29 : decode cX11_goCall 29 = .ok (.iaload, 1) := by decide +kernel
theorem dX11_goCall_30 : decode cX11_goCall 30 = .ok (.iconst 1, 1) := by decide +kernel
theorem dX11_goCall_31 : decode cX11_goCall 31 = .ok (.iadd, 1) := by decide +kernel
theorem dX11_goCall_32 : decode cX11_goCall 32 = .ok (.iastore, 1) := by decide +kernel
theorem dX11_goCall_33 : decode cX11_goCall 33 = .ok (.aload_n 0, 1) := by decide +kernel
theorem dX11_goCall_34 : decode cX11_goCall 34 = .ok (.iload 5, 2) := by decide +kernel
theorem dX11_goCall_36 : decode cX11_goCall 36 = .ok (.iconst 5, 1) := by decide +kernel
theorem dX11_goCall_37 : decode cX11_goCall 37 = .ok (.iadd, 1) := by decide +kernel
theorem dX11_goCall_38 : decode cX11_goCall 38 = .ok (.aload_n 0, 1) := by decide +kernel
theorem dX11_goCall_39 : decode cX11_goCall 39 = .ok (.sipush 382, 3) := by decide +kernel
theorem dX11_goCall_42 : decode cX11_goCall 42 = .ok (.iaload, 1) := by decide +kernel
theorem dX11_goCall_43 : decode cX11_goCall 43 = .ok (.iastore, 1) := by decide +kernel
theorem dX11_goCall_44 : decode cX11_goCall 44 = .ok (.aload_n 0, 1) := by decide +kernel
theorem dX11_goCall_45 : decode cX11_goCall 45 = .ok (.iload 5, 2) := by decide +kernel
theorem dX11_goCall_47 : decode cX11_goCall 47 = .ok (.bipush 6, 2) := by decide +kernel
theorem dX11_goCall_49 : decode cX11_goCall 49 = .ok (.iadd, 1) := by decide +kernel
theorem dX11_goCall_50 : decode cX11_goCall 50 = .ok (.iaload, 1) := by decide +kernel
theorem dX11_goCall_51 : decode cX11_goCall 51 = .ok (.ifCond .ne 21, 3) := by decide +kernel
theorem dX11_goCall_54 : decode cX11_goCall 54 = .ok (.aload_n 0, 1) := by decide +kernel
theorem dX11_goCall_55 : decode cX11_goCall 55 = .ok (.iload 5, 2) := by decide +kernel
theorem dX11_goCall_57 : decode cX11_goCall 57 = .ok (.iconst 4, 1) := by decide +kernel
theorem dX11_goCall_58 : decode cX11_goCall 58 = .ok (.iadd, 1) := by decide +kernel
theorem dX11_goCall_59 : decode cX11_goCall 59 = .ok (.iaload, 1) := by decide +kernel
theorem dX11_goCall_60 : decode cX11_goCall 60 = .ok (.aload_n 0, 1) := by decide +kernel
theorem dX11_goCall_61 : decode cX11_goCall 61 = .ok (.sipush 386, 3) := by decide +kernel
theorem dX11_goCall_64 : decode cX11_goCall 64 = .ok (.iaload, 1) := by decide +kernel
theorem dX11_goCall_65 : decode cX11_goCall 65 = .ok (.if_icmp .lt 7, 3) := by decide +kernel
theorem dX11_goCall_68 : decode cX11_goCall 68 = .ok (.iconst 1, 1) := by decide +kernel
theorem dX11_goCall_69 : decode cX11_goCall 69 = .ok (.goto 4, 3) := by decide +kernel
theorem dX11_goCall_72 : decode cX11_goCall 72 = .ok (.iconst 0, 1) := by decide +kernel
theorem dX11_goCall_73 : decode cX11_goCall 73 = .ok (.istore 6, 2) := by decide +kernel
theorem dX11_goCall_75 : decode cX11_goCall 75 = .ok (.aload_n 0, 1) := by decide +kernel
theorem dX11_goCall_76 : decode cX11_goCall 76 = .ok (.iload 5, 2) := by decide +kernel
theorem dX11_goCall_78 : decode cX11_goCall 78 = .ok (.bipush 6, 2) := by decide +kernel
theorem dX11_goCall_80 : decode cX11_goCall 80 = .ok (.iadd, 1) := by decide +kernel
theorem dX11_goCall_81 : decode cX11_goCall 81 = .ok (.iload 6, 2) := by decide +kernel
theorem dX11_goCall_83 : decode cX11_goCall 83 = .ok (.ifCond .eq 7, 3) := by decide +kernel
theorem dX11_goCall_86 : decode cX11_goCall 86 = .ok (.iconst 1, 1) := by decide +kernel
theorem dX11_goCall_87 : decode cX11_goCall 87 = .ok (.goto 10, 3) := by decide +kernel
theorem dX11_goCall_90 : decode cX11_goCall 90 = .ok (.aload_n 0, 1) := by decide +kernel
theorem dX11_goCall_91 : decode cX11_goCall 91 = .ok (.iload 5, 2) := by decide +kernel
theorem dX11_goCall_93 : decode cX11_goCall 93 = .ok (.bipush 6, 2) := by decide +kernel
theorem dX11_goCall_95 : decode cX11_goCall 95 = .ok (.iadd, 1) := by decide +kernel
theorem dX11_goCall_96 : decode cX11_goCall 96 = .ok (.iaload, 1) := by decide +kernel
theorem dX11_goCall_97 : decode cX11_goCall 97 = .ok (.iastore, 1) := by decide +kernel
theorem dX11_goCall_98 : decode cX11_goCall 98 = .ok (.aload_n 0, 1) := by decide +kernel
theorem dX11_goCall_99 : decode cX11_goCall 99 = .ok (.iload 5, 2) := by decide +kernel
theorem dX11_goCall_101 : decode cX11_goCall 101 = .ok (.bipush 7, 2) := by decide +kernel
theorem dX11_goCall_103 : decode cX11_goCall 103 = .ok (.iadd, 1) := by decide +kernel
theorem dX11_goCall_104 : decode cX11_goCall 104 = .ok (.iload 6, 2) := by decide +kernel
theorem dX11_goCall_106 : decode cX11_goCall 106 = .ok (.ifCond .eq 7, 3) := by decide +kernel
theorem dX11_goCall_109 : decode cX11_goCall 109 = .ok (.iconst 1, 1) := by decide +kernel
theorem dX11_goCall_110 : decode cX11_goCall 110 = .ok (.goto 10, 3) := by decide +kernel
theorem dX11_goCall_113 : decode cX11_goCall 113 = .ok (.aload_n 0, 1) := by decide +kernel
theorem dX11_goCall_114 : decode cX11_goCall 114 = .ok (.iload 5, 2) := by decide +kernel
theorem dX11_goCall_116 : decode cX11_goCall 116 = .ok (.bipush 7, 2) := by decide +kernel
theorem dX11_goCall_118 : decode cX11_goCall 118 = .ok (.iadd, 1) := by decide +kernel
theorem dX11_goCall_119 : decode cX11_goCall 119 = .ok (.iaload, 1) := by decide +kernel
theorem dX11_goCall_120 : decode cX11_goCall 120 = .ok (.iastore, 1) := by decide +kernel
theorem dX11_goCall_121 : decode cX11_goCall 121 = .ok (.aload_n 0, 1) := by decide +kernel
theorem dX11_goCall_122 : decode cX11_goCall 122 = .ok (.iload 5, 2) := by decide +kernel
theorem dX11_goCall_124 : decode cX11_goCall 124 = .ok (.iconst 3, 1) := by decide +kernel
theorem dX11_goCall_125 : decode cX11_goCall 125 = .ok (.iadd, 1) := by decide +kernel
theorem dX11_goCall_126 : decode cX11_goCall 126 = .ok (.iaload, 1) := by decide +kernel
theorem dX11_goCall_127 : decode cX11_goCall 127 = .ok (.ireturn, 1) := by decide +kernel
theorem dX11_goCall_128 : decode cX11_goCall 128 = .ok (.aload_n 0, 1) := by decide +kernel
theorem dX11_goCall_129 : decode cX11_goCall 129 = .ok (.iload_n 1, 1) := by decide +kernel
theorem dX11_goCall_130 : decode cX11_goCall 130 = .ok (.iload_n 2, 1) := by decide +kernel
theorem dX11_goCall_131 : decode cX11_goCall 131 = .ok (.iload_n 3, 1) := by decide +kernel
theorem dX11_goCall_132 : decode cX11_goCall 132 = .ok (.invokestatic 98, 3) := by decide +kernel
theorem dX11_goCall_135 : decode cX11_goCall 135 = .ok (.istore 5, 2) := by decide +kernel
theorem dX11_goCall_137 : decode cX11_goCall 137 = .ok (.iload 5, 2) := by decide +kernel
theorem dX11_goCall_139 : decode cX11_goCall 139 = .ok (.iconst (-1), 1) := by decide +kernel
theorem dX11_goCall_140 : decode cX11_goCall 140 = .ok (.if_icmp .ne 14, 3) := by decide +kernel
theorem dX11_goCall_143 : decode cX11_goCall 143 = .ok (.aload_n 0, 1) := by decide +kernel
theorem dX11_goCall_144 : decode cX11_goCall 144 = .ok (.sipush 384, 3) := by decide +kernel
theorem dX11_goCall_147 : decode cX11_goCall 147 = .ok (.dup2, 1) := by decide +kernel
theorem dX11_goCall_148 : decode cX11_goCall 148 = .ok (.iaload, 1) := by decide +kernel
theorem dX11_goCall_149 : decode cX11_goCall 149 = .ok (.iconst 1, 1) := by decide +kernel
theorem dX11_goCall_150 : decode cX11_goCall 150 = .ok (.iadd, 1) := by decide +kernel
theorem dX11_goCall_151 : decode cX11_goCall 151 = .ok (.iastore, 1) := by decide +kernel
theorem dX11_goCall_152 : decode cX11_goCall 152 = .ok (.iconst (-1), 1) := by decide +kernel
theorem dX11_goCall_153 : decode cX11_goCall 153 = .ok (.ireturn, 1) := by decide +kernel
theorem dX11_goCall_154 : decode cX11_goCall 154 = .ok (.aload_n 0, 1) := by decide +kernel
theorem dX11_goCall_155 : decode cX11_goCall 155 = .ok (.iconst 5, 1) := by decide +kernel
theorem dX11_goCall_156 : decode cX11_goCall 156 = .ok (.iload 5, 2) := by decide +kernel
theorem dX11_goCall_158 : decode cX11_goCall 158 = .ok (.imul, 1) := by decide +kernel
theorem dX11_goCall_159 : decode cX11_goCall 159 = .ok (.iconst 3, 1) := by decide +kernel
theorem dX11_goCall_160 : decode cX11_goCall 160 = .ok (.iadd, 1) := by decide +kernel
theorem dX11_goCall_161 : decode cX11_goCall 161 = .ok (.dup2, 1) := by decide +kernel
theorem dX11_goCall_162 : decode cX11_goCall 162 = .ok (.iaload, 1) := by decide +kernel
theorem dX11_goCall_163 : decode cX11_goCall 163 = .ok (.iconst 1, 1) := by decide +kernel
theorem dX11_goCall_164 : decode cX11_goCall 164 = .ok (.iadd, 1) := by decide +kernel
theorem dX11_goCall_165 : decode cX11_goCall 165 = .ok (.iastore, 1) := by decide +kernel
theorem dX11_goCall_166 : decode cX11_goCall 166 = .ok (.aload_n 0, 1) := by decide +kernel
theorem dX11_goCall_167 : decode cX11_goCall 167 = .ok (.iconst 5, 1) := by decide +kernel
theorem dX11_goCall_168 : decode cX11_goCall 168 = .ok (.aload_n 0, 1) := by decide +kernel
theorem dX11_goCall_169 : decode cX11_goCall 169 = .ok (.aload_n 0, 1) := by decide +kernel
theorem dX11_goCall_170 : decode cX11_goCall 170 = .ok (.iload 5, 2) := by decide +kernel
theorem dX11_goCall_172 : decode cX11_goCall 172 = .ok (.iload_n 2, 1) := by decide +kernel
theorem dX11_goCall_173 : decode cX11_goCall 173 = .ok (.iload_n 3, 1) := by decide +kernel
theorem dX11_goCall_174 : decode cX11_goCall 174 = .ok (.invokestatic 94, 3) := by decide +kernel
theorem dX11_goCall_177 : decode cX11_goCall 177 = .ok (.invokestatic 61, 3) := by decide +kernel
theorem dX11_goCall_180 : decode cX11_goCall 180 = .ok (.iconst 3, 1) := by decide +kernel
theorem dX11_goCall_181 : decode cX11_goCall 181 = .ok (.iadd, 1) := by decide +kernel
theorem dX11_goCall_182 : decode cX11_goCall 182 = .ok (.iaload, 1) := by decide +kernel
theorem dX11_goCall_183 : decode cX11_goCall 183 = .ok (.imul, 1) := by decide +kernel
theorem dX11_goCall_184 : decode cX11_goCall 184 = .ok (.iconst 4, 1) := by decide +kernel
theorem dX11_goCall_185 : decode cX11_goCall 185 = .ok (.iadd, 1) := by decide +kernel
theorem dX11_goCall_186 : decode cX11_goCall 186 = .ok (.dup2, 1) := by decide +kernel
theorem dX11_goCall_187 : decode cX11_goCall 187 = .ok (.iaload, 1) := by decide +kernel
theorem dX11_goCall_188 : decode cX11_goCall 188 = .ok (.iconst 1, 1) := by decide +kernel
theorem dX11_goCall_189 : decode cX11_goCall 189 = .ok (.iadd, 1) := by decide +kernel
theorem dX11_goCall_190 : decode cX11_goCall 190 = .ok (.iastore, 1) := by decide +kernel
theorem dX11_goCall_191 : decode cX11_goCall 191 = .ok (.aload_n 0, 1) := by decide +kernel
theorem dX11_goCall_192 : decode cX11_goCall 192 = .ok (.sipush 383, 3) := by decide +kernel
theorem dX11_goCall_195 : decode cX11_goCall 195 = .ok (.dup2, 1) := by decide +kernel
theorem dX11_goCall_196 : decode cX11_goCall 196 = .ok (.iaload, 1) := by decide +kernel
theorem dX11_goCall_197 : decode cX11_goCall 197 = .ok (.iconst 1, 1) := by decide +kernel
theorem dX11_goCall_198 : decode cX11_goCall 198 = .ok (.iadd, 1) := by decide +kernel
theorem dX11_goCall_199 : decode cX11_goCall 199 = .ok (.iastore, 1) := by decide +kernel
theorem dX11_goCall_200 : decode cX11_goCall 200 = .ok (.iload 5, 2) := by decide +kernel
theorem dX11_goCall_202 : decode cX11_goCall 202 = .ok (.ireturn, 1) := by decide +kernel
theorem dX11_heir_0 : decode cX11_heir 0 = .ok (.iconst (-1), 1) := by decide +kernel
theorem dX11_heir_1 : decode cX11_heir 1 = .ok (.istore_n 2, 1) := by decide +kernel
theorem dX11_heir_2 : decode cX11_heir 2 = .ok (.iconst 0, 1) := by decide +kernel
theorem dX11_heir_3 : decode cX11_heir 3 = .ok (.istore_n 3, 1) := by decide +kernel
theorem dX11_heir_4 : decode cX11_heir 4 = .ok (.iload_n 3, 1) := by decide +kernel
theorem dX11_heir_5 : decode cX11_heir 5 = .ok (.aload_n 0, 1) := by decide +kernel
theorem dX11_heir_6 : decode cX11_heir 6 = .ok (.sipush 380, 3) := by decide +kernel
theorem dX11_heir_9 : decode cX11_heir 9 = .ok (.iaload, 1) := by decide +kernel
theorem dX11_heir_10 : decode cX11_heir 10 = .ok (.if_icmp .ge 97, 3) := by decide +kernel
theorem dX11_heir_13 : decode cX11_heir 13 = .ok (.aload_n 0, 1) := by decide +kernel
theorem dX11_heir_14 : decode cX11_heir 14 = .ok (.iload_n 1, 1) := by decide +kernel
theorem dX11_heir_15 : decode cX11_heir 15 = .ok (.iload_n 3, 1) := by decide +kernel
theorem dX11_heir_16 : decode cX11_heir 16 = .ok (.invokestatic 76, 3) := by decide +kernel
theorem dX11_heir_19 : decode cX11_heir 19 = .ok (.ifCond .eq 46, 3) := by decide +kernel
theorem dX11_heir_22 : decode cX11_heir 22 = .ok (.aload_n 0, 1) := by decide +kernel
theorem dX11_heir_23 : decode cX11_heir 23 = .ok (.iconst 5, 1) := by decide +kernel
theorem dX11_heir_24 : decode cX11_heir 24 = .ok (.iload_n 3, 1) := by decide +kernel
theorem dX11_heir_25 : decode cX11_heir 25 = .ok (.imul, 1) := by decide +kernel
theorem dX11_heir_26 : decode cX11_heir 26 = .ok (.iconst 0, 1) := by decide +kernel
theorem dX11_heir_27 : decode cX11_heir 27 = .ok (.iadd, 1) := by decide +kernel
theorem dX11_heir_28 : decode cX11_heir 28 = .ok (.iaload, 1) := by decide +kernel
theorem dX11_heir_29 : decode cX11_heir 29 = .ok (.aload_n 0, 1) := by decide +kernel
theorem dX11_heir_30 : decode cX11_heir 30 = .ok (.iconst 5, 1) := by decide +kernel
theorem dX11_heir_31 : decode cX11_heir 31 = .ok (.iload_n 1, 1) := by decide +kernel
theorem dX11_heir_32 : decode cX11_heir 32 = .ok (.imul, 1) := by decide +kernel
theorem dX11_heir_33 : decode cX11_heir 33 = .ok (.iconst 0, 1) := by decide +kernel
theorem dX11_heir_34 : decode cX11_heir 34 = .ok (.iadd, 1) := by decide +kernel
theorem dX11_heir_35 : decode cX11_heir 35 = .ok (.iaload, 1) := by decide +kernel
theorem dX11_heir_36 : decode cX11_heir 36 = .ok (.if_icmp .ge 29, 3) := by decide +kernel
theorem dX11_heir_39 : decode cX11_heir 39 = .ok (.aload_n 0, 1) := by decide +kernel
theorem dX11_heir_40 : decode cX11_heir 40 = .ok (.iload_n 3, 1) := by decide +kernel
theorem dX11_heir_41 : decode cX11_heir 41 = .ok (.invokestatic 72, 3) := by decide +kernel
theorem dX11_heir_44 : decode cX11_heir 44 = .ok (.aload_n 0, 1) := by decide +kernel
theorem dX11_heir_45 : decode cX11_heir 45 = .ok (.iload_n 1, 1) := by decide +kernel
theorem dX11_heir_46 : decode cX11_heir 46 = .ok (.invokestatic 72, 3) := by decide +kernel
theorem dX11_heir_49 : decode cX11_heir 49 = .ok (.if_icmp .ne 16, 3) := by decide +kernel
theorem dX11_heir_52 : decode cX11_heir 52 = .ok (.aload_n 0, 1) := by decide +kernel
theorem dX11_heir_53 : decode cX11_heir 53 = .ok (.iload_n 3, 1) := by decide +kernel
theorem dX11_heir_54 : decode cX11_heir 54 = .ok (.invokestatic 80, 3) := by decide +kernel
theorem dX11_heir_57 : decode cX11_heir 57 = .ok (.iconst 3, 1) := by decide +kernel
theorem dX11_heir_58 : decode cX11_heir 58 = .ok (.if_icmp .ge 7, 3) := by decide +kernel
theorem dX11_heir_61 : decode cX11_heir 61 = .ok (.iconst 1, 1) := by decide +kernel
theorem dX11_heir_62 : decode cX11_heir 62 = .ok (.goto 4, 3) := by decide +kernel
theorem dX11_heir_65 : decode cX11_heir 65 = .ok (.iconst 0, 1) := by decide +kernel
theorem dX11_heir_66 : decode cX11_heir 66 = .ok (.istore 4, 2) := by decide +kernel
theorem dX11_heir_68 : decode cX11_heir 68 = .ok (.iload 4, 2) := by decide +kernel
theorem dX11_heir_70 : decode cX11_heir 70 = .ok (.ifCond .eq 29, 3) := by decide +kernel
theorem dX11_heir_73 : decode cX11_heir 73 = .ok (.iload_n 2, 1) := by decide +kernel
theorem dX11_heir_74 : decode cX11_heir 74 = .ok (.iconst (-1), 1) := by decide +kernel
theorem dX11_heir_75 : decode cX11_heir 75 = .ok (.if_icmp .eq 20, 3) := by decide +kernel
theorem dX11_heir_78 : decode cX11_heir 78 = .ok (.aload_n 0, 1) := by decide +kernel
theorem dX11_heir_79 : decode cX11_heir 79 = .ok (.iconst 5, 1) := by decide +kernel
theorem dX11_heir_80 : decode cX11_heir 80 = .ok (.iload_n 3, 1) := by decide +kernel
theorem dX11_heir_81 : decode cX11_heir 81 = .ok (.imul, 1) := by decide +kernel
theorem dX11_heir_82 : decode cX11_heir 82 = .ok (.iconst 0, 1) := by decide +kernel
theorem dX11_heir_83 : decode cX11_heir 83 = .ok (.iadd, 1) := by decide +kernel
theorem dX11_heir_84 : decode cX11_heir 84 = .ok (.iaload, 1) := by decide +kernel
theorem dX11_heir_85 : decode cX11_heir 85 = .ok (.aload_n 0, 1) := by decide +kernel
theorem dX11_heir_86 : decode cX11_heir 86 = .ok (.iconst 5, 1) := by decide +kernel
theorem dX11_heir_87 : decode cX11_heir 87 = .ok (.iload_n 2, 1) := by decide +kernel
theorem dX11_heir_88 : decode cX11_heir 88 = .ok (.imul, 1) := by decide +kernel
theorem dX11_heir_89 : decode cX11_heir 89 = .ok (.iconst 0, 1) := by decide +kernel
theorem dX11_heir_90 : decode cX11_heir 90 = .ok (.iadd, 1) := by decide +kernel
theorem dX11_heir_91 : decode cX11_heir 91 = .ok (.iaload, 1) := by decide +kernel
theorem dX11_heir_92 : decode cX11_heir 92 = .ok (.if_icmp .le 7, 3) := by decide +kernel
theorem dX11_heir_95 : decode cX11_heir 95 = .ok (.iload_n 3, 1) := by decide +kernel
theorem dX11_heir_96 : decode cX11_heir 96 = .ok (.goto 4, 3) := by decide +kernel
theorem dX11_heir_99 : decode cX11_heir 99 = .ok (.iload_n 2, 1) := by decide +kernel
theorem dX11_heir_100 : decode cX11_heir 100 = .ok (.istore_n 2, 1) := by decide +kernel
theorem dX11_heir_101 : decode cX11_heir 101 = .ok (.iinc 3 1, 3) := by decide +kernel
theorem dX11_heir_104 : decode cX11_heir 104 = .ok (.goto (-100), 3) := by decide +kernel
theorem dX11_heir_107 : decode cX11_heir 107 = .ok (.iload_n 2, 1) := by decide +kernel
theorem dX11_heir_108 : decode cX11_heir 108 = .ok (.ireturn, 1) := by decide +kernel
theorem dX11_outgrow_0 : decode cX11_outgrow 0 = .ok (.iload_n 1, 1) := by decide +kernel
theorem dX11_outgrow_1 : decode cX11_outgrow 1 = .ok (.invokestatic 61, 3) := by decide +kernel
theorem dX11_outgrow_4 : decode cX11_outgrow 4 = .ok (.istore_n 2, 1) := by decide +kernel
theorem dX11_outgrow_5 : decode cX11_outgrow 5 = .ok (.aload_n 0, 1) := by decide +kernel
theorem dX11_outgrow_6 : decode cX11_outgrow 6 = .ok (.iload_n 2, 1) := by decide +kernel
theorem dX11_outgrow_7 : decode cX11_outgrow 7 = .ok (.bipush 6, 2) := by decide +kernel
theorem dX11_outgrow_9 : decode cX11_outgrow 9 = .ok (.iadd, 1) := by decide +kernel
theorem dX11_outgrow_10 : decode cX11_outgrow 10 = .ok (.iaload, 1) := by decide +kernel
theorem dX11_outgrow_11 : decode cX11_outgrow 11 = .ok (.iconst 1, 1) := by decide +kernel
theorem dX11_outgrow_12 : decode cX11_outgrow 12 = .ok (.if_icmp .ne 15, 3) := by decide +kernel
theorem dX11_outgrow_15 : decode cX11_outgrow 15 = .ok (.aload_n 0, 1) := by decide +kernel
theorem dX11_outgrow_16 : decode cX11_outgrow 16 = .ok (.aload_n 0, 1) := by decide +kernel
theorem dX11_outgrow_17 : decode cX11_outgrow 17 = .ok (.iload_n 2, 1) := by decide +kernel
theorem dX11_outgrow_18 : decode cX11_outgrow 18 = .ok (.iconst 3, 1) := by decide +kernel
theorem dX11_outgrow_19 : decode cX11_outgrow 19 = .ok (.iadd, 1) := by decide +kernel
theorem dX11_outgrow_20 : decode cX11_outgrow 20 = .ok (.iaload, 1) := by decide +kernel
theorem dX11_outgrow_21 : decode cX11_outgrow 21 = .ok (.invokestatic 101, 3) := by decide +kernel
theorem dX11_outgrow_24 : decode cX11_outgrow 24 = .ok (.goto 4, 3) := by decide +kernel
theorem dX11_outgrow_27 : decode cX11_outgrow 27 = .ok (.iconst (-1), 1) := by decide +kernel
theorem dX11_outgrow_28 : decode cX11_outgrow 28 = .ok (.istore_n 3, 1) := by decide +kernel
theorem dX11_outgrow_29 : decode cX11_outgrow 29 = .ok (.iload_n 3, 1) := by decide +kernel
theorem dX11_outgrow_30 : decode cX11_outgrow 30 = .ok (.iconst (-1), 1) := by decide +kernel
theorem dX11_outgrow_31 : decode cX11_outgrow 31 = .ok (.if_icmp .eq 13, 3) := by decide +kernel
theorem dX11_outgrow_34 : decode cX11_outgrow 34 = .ok (.aload_n 0, 1) := by decide +kernel
theorem dX11_outgrow_35 : decode cX11_outgrow 35 = .ok (.sipush 381, 3) := by decide +kernel
theorem dX11_outgrow_38 : decode cX11_outgrow 38 = .ok (.iaload, 1) := by decide +kernel
theorem dX11_outgrow_39 : decode cX11_outgrow 39 = .ok (.bipush 40, 2) := by decide +kernel
theorem dX11_outgrow_41 : decode cX11_outgrow 41 = .ok (.if_icmp .ne 11, 3) := by decide +kernel
theorem dX11_outgrow_44 : decode cX11_outgrow 44 = .ok (.aload_n 0, 1) := by decide +kernel
theorem dX11_outgrow_45 : decode cX11_outgrow 45 = .ok (.iload_n 2, 1) := by decide +kernel
theorem dX11_outgrow_46 : decode cX11_outgrow 46 = .ok (.bipush 6, 2) := by decide +kernel
theorem dX11_outgrow_48 : decode cX11_outgrow 48 = .ok (.iadd, 1) := by decide +kernel
theorem dX11_outgrow_49 : decode cX11_outgrow 49 = .ok (.iconst 3, 1) := by decide +kernel
theorem dX11_outgrow_50 : decode cX11_outgrow 50 = .ok (.iastore, 1) := by decide +kernel
theorem dX11_outgrow_51 : decode cX11_outgrow 51 = .ok (.return_, 1) := by decide +kernel
theorem dX11_outgrow_52 : decode cX11_outgrow 52 = .ok (.aload_n 0, 1) := by decide +kernel
theorem dX11_outgrow_53 : decode cX11_outgrow 53 = .ok (.iload_n 2, 1) := by decide +kernel
theorem dX11_outgrow_54 : decode cX11_outgrow 54 = .ok (.bipush 6, 2) := by decide +kernel
theorem dX11_outgrow_56 : decode cX11_outgrow 56 = .ok (.iadd, 1) := by decide +kernel
theorem dX11_outgrow_57 : decode cX11_outgrow 57 = .ok (.iconst 4, 1) := by decide +kernel
theorem dX11_outgrow_58 : decode cX11_outgrow 58 = .ok (.iastore, 1) := by decide +kernel
theorem dX11_outgrow_59 : decode cX11_outgrow 59 = .ok (.aload_n 0, 1) := by decide +kernel
theorem dX11_outgrow_60 : decode cX11_outgrow 60 = .ok (.aload_n 0, 1) := by decide +kernel
theorem dX11_outgrow_61 : decode cX11_outgrow 61 = .ok (.iload_n 2, 1) := by decide +kernel
theorem dX11_outgrow_62 : decode cX11_outgrow 62 = .ok (.iconst 3, 1) := by decide +kernel
theorem dX11_outgrow_63 : decode cX11_outgrow 63 = .ok (.iadd, 1) := by decide +kernel
theorem dX11_outgrow_64 : decode cX11_outgrow 64 = .ok (.iaload, 1) := by decide +kernel
theorem dX11_outgrow_65 : decode cX11_outgrow 65 = .ok (.iload_n 3, 1) := by decide +kernel
theorem dX11_outgrow_66 : decode cX11_outgrow 66 = .ok (.aload_n 0, 1) := by decide +kernel
theorem dX11_outgrow_67 : decode cX11_outgrow 67 = .ok (.iload_n 2, 1) := by decide +kernel
theorem dX11_outgrow_68 : decode cX11_outgrow 68 = .ok (.iconst 0, 1) := by decide +kernel
theorem dX11_outgrow_69 : decode cX11_outgrow 69 = .ok (.iadd, 1) := by decide +kernel
theorem dX11_outgrow_70 : decode cX11_outgrow 70 = .ok (.iaload, 1) := by decide +kernel
theorem dX11_outgrow_71 : decode cX11_outgrow 71 = .ok (.aload_n 0, 1) := by decide +kernel
theorem dX11_outgrow_72 : decode cX11_outgrow 72 = .ok (.iload_n 2, 1) := by decide +kernel
theorem dX11_outgrow_73 : decode cX11_outgrow 73 = .ok (.iconst 1, 1) := by decide +kernel
theorem dX11_outgrow_74 : decode cX11_outgrow 74 = .ok (.iadd, 1) := by decide +kernel
theorem dX11_outgrow_75 : decode cX11_outgrow 75 = .ok (.iaload, 1) := by decide +kernel
theorem dX11_outgrow_76 : decode cX11_outgrow 76 = .ok (.invokestatic 90, 3) := by decide +kernel
theorem dX11_outgrow_79 : decode cX11_outgrow 79 = .ok (.return_, 1) := by decide +kernel
theorem dX11_goYear_0 : decode cX11_goYear 0 = .ok (.iconst 0, 1) := by decide +kernel
theorem dX11_goYear_1 : decode cX11_goYear 1 = .ok (.istore_n 1, 1) := by decide +kernel
theorem dX11_goYear_2 : decode cX11_goYear 2 = .ok (.aload_n 0, 1) := by decide +kernel
theorem dX11_goYear_3 : decode cX11_goYear 3 = .ok (.sipush 381, 3) := by decide +kernel
theorem dX11_goYear_6 : decode cX11_goYear 6 = .ok (.iaload, 1) := by decide +kernel
theorem dX11_goYear_7 : decode cX11_goYear 7 = .ok (.istore_n 2, 1) := by decide +kernel
theorem dX11_goYear_8 : decode cX11_goYear 8 = .ok (.aload_n 0, 1) := by decide +kernel
theorem dX11_goYear_9 : decode cX11_goYear 9 = .ok (.sipush 382, 3) := by decide +kernel
theorem dX11_goYear_12 : decode cX11_goYear 12 = .ok (.dup2, 1) := by decide +kernel
theorem dX11_goYear_13 : decode cX11_goYear 13 = .ok (.iaload, 1) := by decide +kernel
theorem dX11_goYear_14 : decode cX11_goYear 14 = .ok (.iconst 1, 1) := by decide +kernel
theorem dX11_goYear_15 : decode cX11_goYear 15 = .ok (.iadd, 1) := by decide +kernel
theorem dX11_goYear_16 : decode cX11_goYear 16 = .ok (.iastore, 1) := by decide +kernel
theorem dX11_goYear_17 : decode cX11_goYear 17 = .ok (.iconst 0, 1) := by decide +kernel
theorem dX11_goYear_18 : decode cX11_goYear 18 = .ok (.istore_n 3, 1) := by decide +kernel
theorem dX11_goYear_19 : decode cX11_goYear 19 = .ok (.iload_n 3, 1) := by decide +kernel
theorem dX11_goYear_20 : decode cX11_goYear 20 = .ok (.aload_n 0, 1) := by decide +kernel
theorem dX11_goYear_21 : decode cX11_goYear 21 = .ok (.sipush 380, 3) := by decide +kernel
theorem dX11_goYear_24 : decode cX11_goYear 24 = .ok (.iaload, 1) := by decide +kernel
theorem dX11_goYear_25 : decode cX11_goYear 25 = .ok (.if_icmp .ge 20, 3) := by decide +kernel
theorem dX11_goYear_28 : decode cX11_goYear 28 = .ok (.aload_n 0, 1) := by decide +kernel
theorem dX11_goYear_29 : decode cX11_goYear 29 = .ok (.iconst 5, 1) := by decide +kernel
theorem dX11_goYear_30 : decode cX11_goYear 30 = .ok (.iload_n 3, 1) := by decide +kernel
theorem dX11_goYear_31 : decode cX11_goYear 31 = .ok (.imul, 1) := by decide +kernel
theorem dX11_goYear_32 : decode cX11_goYear 32 = .ok (.iconst 0, 1) := by decide +kernel
theorem dX11_goYear_33 : decode cX11_goYear 33 = .ok (.iadd, 1) := by decide +kernel
theorem dX11_goYear_34 : decode cX11_goYear 34 = .ok (.dup2, 1) := by decide +kernel
theorem dX11_goYear_35 : decode cX11_goYear 35 = .ok (.iaload, 1) := by decide +kernel
theorem dX11_goYear_36 : decode cX11_goYear 36 = .ok (.iconst 1, 1) := by decide +kernel
theorem dX11_goYear_37 : decode cX11_goYear 37 = .ok (.iadd, 1) := by decide +kernel
theorem dX11_goYear_38 : decode cX11_goYear 38 = .ok (.iastore, 1) := by decide +kernel
theorem dX11_goYear_39 : decode cX11_goYear 39 = .ok (.iinc 3 1, 3) := by decide +kernel
theorem dX11_goYear_42 : decode cX11_goYear 42 = .ok (.goto (-23), 3) := by decide +kernel
theorem dX11_goYear_45 : decode cX11_goYear 45 = .ok (.iconst 0, 1) := by decide +kernel
theorem dX11_goYear_46 : decode cX11_goYear 46 = .ok (.istore_n 3, 1) := by decide +kernel
theorem dX11_goYear_47 : decode cX11_goYear 47 = .ok (.iload_n 3, 1) := by decide +kernel
theorem dX11_goYear_48 : decode cX11_goYear 48 = .ok (.iload_n 2, 1) := by decide +kernel
theorem dX11_goYear_49 : decode cX11_goYear 49 = .ok (.if_icmp .ge 104, 3) := by decide +kernel
theorem dX11_goYear_52 : decode cX11_goYear 52 = .ok (.iload_n 3, 1) := by decide +kernel
theorem dX11_goYear_53 : decode cX11_goYear 53 = .ok (.invokestatic 61, 3) := by decide +kernel
theorem dX11_goYear_56 : decode cX11_goYear 56 = .ok (.istore 4, 2) := by decide +kernel
theorem dX11_goYear_58 : decode cX11_goYear 58 = .ok (.aload_n 0, 1) := by decide +kernel
theorem dX11_goYear_59 : decode cX11_goYear 59 = .ok (.iload_n 3, 1) := by decide +kernel
theorem dX11_goYear_60 : decode cX11_goYear 60 = .ok (.invokestatic 64, 3) := by decide +kernel
theorem dX11_goYear_63 : decode cX11_goYear 63 = .ok (.ifCond .eq 84, 3) := by decide +kernel
theorem dX11_goYear_66 : decode cX11_goYear 66 = .ok (.aload_n 0, 1) := by decide +kernel
theorem dX11_goYear_67 : decode cX11_goYear 67 = .ok (.sipush 382, 3) := by decide +kernel
theorem dX11_goYear_70 : decode cX11_goYear 70 = .ok (.iaload, 1) := by decide +kernel
theorem dX11_goYear_71 : decode cX11_goYear 71 = .ok (.aload_n 0, 1) := by decide +kernel
theorem dX11_goYear_72 : decode cX11_goYear 72 = .ok (.iload 4, 2) := by decide +kernel
theorem dX11_goYear_74 : decode cX11_goYear 74 = .ok (.iconst 5, 1) := by decide +kernel
theorem dX11_goYear_75 : decode cX11_goYear 75 = .ok (.iadd, 1) := by decide +kernel
theorem dX11_goYear_76 : decode cX11_goYear 76 = .ok (.iaload, 1) := by decide +kernel
theorem dX11_goYear_77 : decode cX11_goYear 77 = .ok (.isub, 1) := by decide +kernel
theorem dX11_goYear_78 : decode cX11_goYear 78 = .ok (.aload_n 0, 1) := by decide +kernel
theorem dX11_goYear_79 : decode cX11_goYear 79 = .ok (.sipush 387, 3) := by decide +kernel
theorem dX11_goYear_82 : decode cX11_goYear 82 = .ok (.iaload, 1) := by decide +kernel
theorem dX11_goYear_83 : decode cX11_goYear 83 = .ok (.if_icmp .lt 14, 3) := by decide +kernel
theorem dX11_goYear_86 : decode cX11_goYear 86 = .ok (.aload_n 0, 1) := by decide +kernel
theorem dX11_goYear_87 : decode cX11_goYear 87 = .ok (.iload 4, 2) := by decide +kernel
theorem dX11_goYear_89 : decode cX11_goYear 89 = .ok (.bipush 6, 2) := by decide +kernel
theorem dX11_goYear_91 : decode cX11_goYear 91 = .ok (.iadd, 1) := by decide +kernel
theorem dX11_goYear_92 : decode cX11_goYear 92 = .ok (.iconst 2, 1) := by decide +kernel
theorem dX11_goYear_93 : decode cX11_goYear 93 = .ok (.iastore, 1) := by decide +kernel
theorem dX11_goYear_94 : decode cX11_goYear 94 = .ok (.goto 37, 3) := by decide +kernel
theorem dX11_goYear_97 : decode cX11_goYear 97 = .ok (.aload_n 0, 1) := by decide +kernel
theorem dX11_goYear_98 : decode cX11_goYear 98 = .ok (.iconst 5, 1) := by decide +kernel
theorem dX11_goYear_99 : decode cX11_goYear 99 = .ok (.aload_n 0, 1) := by decide +kernel
theorem dX11_goYear_100 : decode cX11_goYear 100 = .ok (.iload 4, 2) := by decide +kernel
theorem dX11_goYear_102 : decode cX11_goYear 102 = .ok (.iconst 3, 1) := by decide +kernel
theorem dX11_goYear_103 : decode cX11_goYear 103 = .ok (.iadd, 1) := by decide +kernel
theorem dX11_goYear_104 : decode cX11_goYear 104 = .ok (.iaload, 1) := by decide +kernel
theorem dX11_goYear_105 : decode cX11_goYear 105 = .ok (.imul, 1) := by decide +kernel
theorem dX11_goYear_106 : decode cX11_goYear 106 = .ok (.iconst 0, 1) := by decide +kernel
theorem dX11_goYear_107 : decode cX11_goYear 107 = .ok (.iadd, 1) := by decide +kernel
theorem dX11_goYear_108 : decode cX11_goYear 108 = .ok (.iaload, 1) := by decide +kernel
theorem dX11_goYear_109 : decode cX11_goYear 109 = .ok (.iconst 4, 1) := by decide +kernel
theorem dX11_goYear_110 : decode cX11_goYear 110 = .ok (.aload_n 0, 1) := by decide +kernel
theorem dX11_goYear_111 : decode cX11_goYear 111 = .ok (.sipush 388, 3) := by decide +kernel
theorem dX11_goYear_114 : decode cX11_goYear 114 = .ok (.iaload, 1) := by decide +kernel
theorem dX11_goYear_115 : decode cX11_goYear 115 = .ok (.imul, 1) := by decide +kernel
theorem dX11_goYear_116 : decode cX11_goYear 116 = .ok (.aload_n 0, 1) := by decide +kernel
theorem dX11_goYear_117 : decode cX11_goYear 117 = .ok (.iload 4, 2) := by decide +kernel
theorem dX11_goYear_119 : decode cX11_goYear 119 = .ok (.iconst 0, 1) := by decide +kernel
theorem dX11_goYear_120 : decode cX11_goYear 120 = .ok (.iadd, 1) := by decide +kernel
theorem dX11_goYear_121 : decode cX11_goYear 121 = .ok (.iaload, 1) := by decide +kernel
theorem dX11_goYear_122 : decode cX11_goYear 122 = .ok (.imul, 1) := by decide +kernel
theorem dX11_goYear_123 : decode cX11_goYear 123 = .ok (.if_icmp .le 8, 3) := by decide +kernel
theorem dX11_goYear_126 : decode cX11_goYear 126 = .ok (.aload_n 0, 1) := by decide +kernel
theorem dX11_goYear_127 : decode cX11_goYear 127 = .ok (.iload_n 3, 1) := by decide +kernel
theorem dX11_goYear_128 : decode cX11_goYear 128 = .ok (.invokestatic 104, 3) := by decide +kernel
theorem dX11_goYear_131 : decode cX11_goYear 131 = .ok (.iload_n 1, 1) := by decide +kernel
theorem dX11_goYear_132 : decode cX11_goYear 132 = .ok (.aload_n 0, 1) := by decide +kernel
theorem dX11_goYear_133 : decode cX11_goYear 133 = .ok (.iload_n 3, 1) := by decide +kernel
theorem dX11_goYear_134 : decode cX11_goYear 134 = .ok (.invokestatic 64, 3) := by decide +kernel
theorem dX11_goYear_137 : decode cX11_goYear 137 = .ok (.ifCond .eq 7, 3) := by decide +kernel
theorem dX11_goYear_140 : decode cX11_goYear 140 = .ok (.iconst 0, 1) := by decide +kernel
theorem dX11_goYear_141 : decode cX11_goYear 141 = .ok (.goto 4, 3) := by decide +kernel
theorem dX11_goYear_144 : decode cX11_goYear 144 = .ok (.iconst 1, 1) := by decide +kernel
theorem dX11_goYear_145 : decode cX11_goYear 145 = .ok (.iadd, 1) := by decide +kernel
theorem dX11_goYear_146 : decode cX11_goYear 146 = .ok (.istore_n 1, 1) := by decide +kernel
theorem dX11_goYear_147 : decode cX11_goYear 147 = .ok (.iinc 3 1, 3) := by decide +kernel
theorem dX11_goYear_150 : decode cX11_goYear 150 = .ok (.goto (-103), 3) := by decide +kernel
theorem dX11_goYear_153 : decode cX11_goYear 153 = .ok (.iload_n 1, 1) := by decide +kernel
theorem dX11_goYear_154 : decode cX11_goYear 154 = .ok (.ireturn, 1) := by decide +kernel
theorem dX11_goYears_0 : decode cX11_goYears 0 = .ok (.iconst 0, 1) := by decide +kernel
theorem dX11_goYears_1 : decode cX11_goYears 1 = .ok (.istore_n 2, 1) := by decide +kernel
theorem dX11_goYears_2 : decode cX11_goYears 2 = .ok (.iconst 0, 1) := by decide +kernel
theorem dX11_goYears_3 : decode cX11_goYears 3 = .ok (.istore_n 3, 1) := by decide +kernel
theorem dX11_goYears_4 : decode cX11_goYears 4 = .ok (.iload_n 3, 1) := by decide +kernel
theorem dX11_goYears_5 : decode cX11_goYears 5 = .ok (.iload_n 1, 1) := by decide +kernel
theorem dX11_goYears_6 : decode cX11_goYears 6 = .ok (.if_icmp .ge 16, 3) := by decide +kernel
theorem dX11_goYears_9 : decode cX11_goYears 9 = .ok (.iload_n 2, 1) := by decide +kernel
theorem dX11_goYears_10 : decode cX11_goYears 10 = .ok (.aload_n 0, 1) := by decide +kernel
theorem dX11_goYears_11 : decode cX11_goYears 11 = .ok (.invokestatic 108, 3) := by decide +kernel
theorem dX11_goYears_14 : decode cX11_goYears 14 = .ok (.iadd, 1) := by decide +kernel
theorem dX11_goYears_15 : decode cX11_goYears 15 = .ok (.istore_n 2, 1) := by decide +kernel
theorem dX11_goYears_16 : decode cX11_goYears 16 = .ok (.iinc 3 1, 3) := by decide +kernel
theorem dX11_goYears_19 : decode cX11_goYears 19 = .ok (.goto (-15), 3) := by decide +kernel
theorem dX11_goYears_22 : decode cX11_goYears 22 = .ok (.iload_n 2, 1) := by decide +kernel
theorem dX11_goYears_23 : decode cX11_goYears 23 = .ok (.ireturn, 1) := by decide +kernel
theorem dX11_hasYears_0 : decode cX11_hasYears 0 = .ok (.aload_n 0, 1) := by decide +kernel
theorem dX11_hasYears_1 : decode cX11_hasYears 1 = .ok (.sipush 382, 3) := by decide +kernel
theorem dX11_hasYears_4 : decode cX11_hasYears 4 = .ok (.iaload, 1) := by decide +kernel
theorem dX11_hasYears_5 : decode cX11_hasYears 5 = .ok (.iload_n 1, 1) := by decide +kernel
theorem dX11_hasYears_6 : decode cX11_hasYears 6 = .ok (.iadd, 1) := by decide +kernel
theorem dX11_hasYears_7 : decode cX11_hasYears 7 = .ok (.sipush 999, 3) := by decide +kernel
theorem dX11_hasYears_10 : decode cX11_hasYears 10 = .ok (.if_icmp .gt 7, 3) := by decide +kernel
theorem dX11_hasYears_13 : decode cX11_hasYears 13 = .ok (.iconst 1, 1) := by decide +kernel
theorem dX11_hasYears_14 : decode cX11_hasYears 14 = .ok (.goto 4, 3) := by decide +kernel
theorem dX11_hasYears_17 : decode cX11_hasYears 17 = .ok (.iconst 0, 1) := by decide +kernel
theorem dX11_hasYears_18 : decode cX11_hasYears 18 = .ok (.ireturn, 1) := by decide +kernel
theorem dX11_addPerson_0 : decode cX11_addPerson 0 = .ok (.iconst 5, 1) := by decide +kernel
theorem dX11_addPerson_1 : decode cX11_addPerson 1 = .ok (.aload_n 0, 1) := by decide +kernel
theorem dX11_addPerson_2 : decode cX11_addPerson 2 = .ok (.sipush 380, 3) := by decide +kernel
theorem dX11_addPerson_5 : decode cX11_addPerson 5 = .ok (.iaload, 1) := by decide +kernel
theorem dX11_addPerson_6 : decode cX11_addPerson 6 = .ok (.imul, 1) := by decide +kernel
theorem dX11_addPerson_7 : decode cX11_addPerson 7 = .ok (.istore 4, 2) := by decide +kernel
theorem dX11_addPerson_9 : decode cX11_addPerson 9 = .ok (.aload_n 0, 1) := by decide +kernel
theorem dX11_addPerson_10 : decode cX11_addPerson 10 = .ok (.iload 4, 2) := by decide +kernel
theorem dX11_addPerson_12 : decode cX11_addPerson 12 = .ok (.iconst 0, 1) := by decide +kernel
theorem dX11_addPerson_13 : decode cX11_addPerson 13 = .ok (.iadd, 1) := by decide +kernel
theorem dX11_addPerson_14 : decode cX11_addPerson 14 = .ok (.iload_n 1, 1) := by decide +kernel
theorem dX11_addPerson_15 : decode cX11_addPerson 15 = .ok (.iastore, 1) := by decide +kernel
theorem dX11_addPerson_16 : decode cX11_addPerson 16 = .ok (.aload_n 0, 1) := by decide +kernel
theorem dX11_addPerson_17 : decode cX11_addPerson 17 = .ok (.iload 4, 2) := by decide +kernel
theorem dX11_addPerson_19 : decode cX11_addPerson 19 = .ok (.iconst 1, 1) := by decide +kernel
theorem dX11_addPerson_20 : decode cX11_addPerson 20 = .ok (.iadd, 1) := by decide +kernel
theorem dX11_addPerson_21 : decode cX11_addPerson 21 = .ok (.iload_n 2, 1) := by decide +kernel
theorem dX11_addPerson_22 : decode cX11_addPerson 22 = .ok (.iastore, 1) := by decide +kernel
theorem dX11_addPerson_23 : decode cX11_addPerson 23 = .ok (.aload_n 0, 1) := by decide +kernel
theorem dX11_addPerson_24 : decode cX11_addPerson 24 = .ok (.iload 4, 2) := by decide +kernel
theorem dX11_addPerson_26 : decode cX11_addPerson 26 = .ok (.iconst 2, 1) := by decide +kernel
theorem dX11_addPerson_27 : decode cX11_addPerson 27 = .ok (.iadd, 1) := by decide +kernel
theorem dX11_addPerson_28 : decode cX11_addPerson 28 = .ok (.iload_n 3, 1) := by decide +kernel
theorem dX11_addPerson_29 : decode cX11_addPerson 29 = .ok (.iastore, 1) := by decide +kernel
theorem dX11_addPerson_30 : decode cX11_addPerson 30 = .ok (.aload_n 0, 1) := by decide +kernel
theorem dX11_addPerson_31 : decode cX11_addPerson 31 = .ok (.sipush 380, 3) := by decide +kernel
theorem dX11_addPerson_34 : decode cX11_addPerson 34 = .ok (.dup2, 1) := by decide +kernel
theorem dX11_addPerson_35 : decode cX11_addPerson 35 = .ok (.iaload, 1) := by decide +kernel
theorem dX11_addPerson_36 : decode cX11_addPerson 36 = .ok (.iconst 1, 1) := by decide +kernel
theorem dX11_addPerson_37 : decode cX11_addPerson 37 = .ok (.iadd, 1) := by decide +kernel
theorem dX11_addPerson_38 : decode cX11_addPerson 38 = .ok (.iastore, 1) := by decide +kernel
theorem dX11_addPerson_39 : decode cX11_addPerson 39 = .ok (.aload_n 0, 1) := by decide +kernel
theorem dX11_addPerson_40 : decode cX11_addPerson 40 = .ok (.sipush 380, 3) := by decide +kernel
theorem dX11_addPerson_43 : decode cX11_addPerson 43 = .ok (.iaload, 1) := by decide +kernel
theorem dX11_addPerson_44 : decode cX11_addPerson 44 = .ok (.iconst 1, 1) := by decide +kernel
theorem dX11_addPerson_45 : decode cX11_addPerson 45 = .ok (.isub, 1) := by decide +kernel
theorem dX11_addPerson_46 : decode cX11_addPerson 46 = .ok (.ireturn, 1) := by decide +kernel
theorem dX11_canSit_0 : decode cX11_canSit 0 = .ok (.iconst 1, 1) := by decide +kernel
theorem dX11_canSit_1 : decode cX11_canSit 1 = .ok (.istore_n 3, 1) := by decide +kernel
theorem dX11_canSit_2 : decode cX11_canSit 2 = .ok (.iconst 0, 1) := by decide +kernel
theorem dX11_canSit_3 : decode cX11_canSit 3 = .ok (.istore 4, 2) := by decide +kernel
theorem dX11_canSit_5 : decode cX11_canSit 5 = .ok (.iload 4, 2) := by decide +kernel
theorem dX11_canSit_7 : decode cX11_canSit 7 = .ok (.aload_n 0, 1) := by decide +kernel
theorem dX11_canSit_8 : decode cX11_canSit 8 = .ok (.sipush 381, 3) := by decide +kernel
theorem dX11_canSit_11 : decode cX11_canSit 11 = .ok (.iaload, 1) := by decide +kernel
theorem dX11_canSit_12 : decode cX11_canSit 12 = .ok (.if_icmp .ge 81, 3) := by decide +kernel
theorem dX11_canSit_15 : decode cX11_canSit 15 = .ok (.aload_n 0, 1) := by decide +kernel
theorem dX11_canSit_16 : decode cX11_canSit 16 = .ok (.iload 4, 2) := by decide +kernel
theorem dX11_canSit_18 : decode cX11_canSit 18 = .ok (.invokestatic 64, 3) := by decide +kernel
theorem dX11_canSit_21 : decode cX11_canSit 21 = .ok (.ifCond .eq 20, 3) := by decide +kernel
theorem dX11_canSit_24 : decode cX11_canSit 24 = .ok (.aload_n 0, 1) := by decide +kernel
theorem dX11_canSit_25 : decode cX11_canSit 25 = .ok (.iload 4, 2) := by decide +kernel
theorem dX11_canSit_27 : decode cX11_canSit 27 = .ok (.invokestatic 61, 3) := by decide +kernel
theorem dX11_canSit_30 : decode cX11_canSit 30 = .ok (.iconst 3, 1) := by decide +kernel
theorem dX11_canSit_31 : decode cX11_canSit 31 = .ok (.iadd, 1) := by decide +kernel
theorem dX11_canSit_32 : decode cX11_canSit 32 = .ok (.iaload, 1) := by decide +kernel
theorem dX11_canSit_33 : decode cX11_canSit 33 = .ok (.iload_n 1, 1) := by decide +kernel
theorem dX11_canSit_34 : decode cX11_canSit 34 = .ok (.if_icmp .ne 7, 3) := by decide +kernel
theorem dX11_canSit_37 : decode cX11_canSit 37 = .ok (.iconst 1, 1) := by decide +kernel
theorem dX11_canSit_38 : decode cX11_canSit 38 = .ok (.goto 4, 3) := by decide +kernel
theorem dX11_canSit_41 : decode cX11_canSit 41 = .ok (.iconst 0, 1) := by decide +kernel
theorem dX11_canSit_42 : decode cX11_canSit 42 = .ok (.istore 5, 2) := by decide +kernel
theorem dX11_canSit_44 : decode cX11_canSit 44 = .ok (.iload_n 3, 1) := by decide +kernel
theorem dX11_canSit_45 : decode cX11_canSit 45 = .ok (.ifCond .eq 40, 3) := by decide +kernel
theorem dX11_canSit_48 : decode cX11_canSit 48 = .ok (.iload 5, 2) := by decide +kernel
theorem dX11_canSit_50 : decode cX11_canSit 50 = .ok (.ifCond .eq 31, 3) := by decide +kernel
theorem dX11_canSit_53 : decode cX11_canSit 53 = .ok (.aload_n 0, 1) := by decide +kernel
theorem dX11_canSit_54 : decode cX11_canSit 54 = .ok (.iload_n 2, 1) := by decide +kernel
theorem dX11_canSit_55 : decode cX11_canSit 55 = .ok (.iload_n 1, 1) := by decide +kernel
theorem dX11_canSit_56 : decode cX11_canSit 56 = .ok (.aload_n 0, 1) := by decide +kernel
theorem dX11_canSit_57 : decode cX11_canSit 57 = .ok (.iload 4, 2) := by decide +kernel
theorem dX11_canSit_59 : decode cX11_canSit 59 = .ok (.invokestatic 61, 3) := by decide +kernel
theorem dX11_canSit_62 : decode cX11_canSit 62 = .ok (.iconst 0, 1) := by decide +kernel
theorem dX11_canSit_63 : decode cX11_canSit 63 = .ok (.iadd, 1) := by decide +kernel
theorem dX11_canSit_64 : decode cX11_canSit 64 = .ok (.iaload, 1) := by decide +kernel
theorem dX11_canSit_65 : decode cX11_canSit 65 = .ok (.aload_n 0, 1) := by decide +kernel
theorem dX11_canSit_66 : decode cX11_canSit 66 = .ok (.iload 4, 2) := by decide +kernel
theorem dX11_canSit_68 : decode cX11_canSit 68 = .ok (.invokestatic 61, 3) := by decide +kernel
theorem dX11_canSit_71 : decode cX11_canSit 71 = .ok (.iconst 1, 1) := by decide +kernel
theorem dX11_canSit_72 : decode cX11_canSit 72 = .ok (.iadd, 1) := by decide +kernel
theorem dX11_canSit_73 : decode cX11_canSit 73 = .ok (.iaload, 1) := by decide +kernel
theorem dX11_canSit_74 : decode cX11_canSit 74 = .ok (.invokestatic 83, 3) := by decide +kernel
theorem dX11_canSit_77 : decode cX11_canSit 77 = .ok (.iconst (-1), 1) := by decide +kernel
theorem dX11_canSit_78 : decode cX11_canSit 78 = .ok (.if_icmp .ne 7, 3) := by decide +kernel
theorem dX11_canSit_81 : decode cX11_canSit 81 = .ok (.iconst 1, 1) := by decide +kernel
theorem dX11_canSit_82 : decode cX11_canSit 82 = .ok (.goto 4, 3) := by decide +kernel
theorem dX11_canSit_85 : decode cX11_canSit 85 = .ok (.iconst 0, 1) := by decide +kernel
theorem dX11_canSit_86 : decode cX11_canSit 86 = .ok (.istore_n 3, 1) := by decide +kernel
theorem dX11_canSit_87 : decode cX11_canSit 87 = .ok (.iinc 4 1, 3) := by decide +kernel
theorem dX11_canSit_90 : decode cX11_canSit 90 = .ok (.goto (-85), 3) := by decide +kernel
theorem dX11_canSit_93 : decode cX11_canSit 93 = .ok (.iload_n 3, 1) := by decide +kernel
theorem dX11_canSit_94 : decode cX11_canSit 94 = .ok (.ireturn, 1) := by decide +kernel
theorem dX11_put_0 : decode cX11_put 0 = .ok (.aload_n 0, 1) := by decide +kernel
theorem dX11_put_1 : decode cX11_put 1 = .ok (.iload_n 1, 1) := by decide +kernel
theorem dX11_put_2 : decode cX11_put 2 = .ok (.iaload, 1) := by decide +kernel
theorem dX11_put_3 : decode cX11_put 3 = .ok (.istore_n 3, 1) := by decide +kernel
theorem dX11_put_4 : decode cX11_put 4 = .ok (.aload_n 0, 1) := by decide +kernel
theorem dX11_put_5 : decode cX11_put 5 = .ok (.iload_n 1, 1) := by decide +kernel
theorem dX11_put_6 : decode cX11_put 6 = .ok (.iload_n 2, 1) := by decide +kernel
theorem dX11_put_7 : decode cX11_put 7 = .ok (.iastore, 1) := by decide +kernel
theorem dX11_put_8 : decode cX11_put 8 = .ok (.iload_n 3, 1) := by decide +kernel
theorem dX11_put_9 : decode cX11_put 9 = .ok (.ireturn, 1) := by decide +kernel
theorem dX11_remember_0 : decode cX11_remember 0 = .ok (.aload_n 0, 1) := by decide +kernel
theorem dX11_remember_1 : decode cX11_remember 1 = .ok (.getfield 112, 3) := by decide +kernel
theorem dX11_remember_4 : decode cX11_remember 4 = .ok (.bipush 14, 2) := by decide +kernel
theorem dX11_remember_6 : decode cX11_remember 6 = .ok (.if_icmp .ne 44, 3) := by decide +kernel
theorem dX11_remember_9 : decode cX11_remember 9 = .ok (.iconst 0, 1) := by decide +kernel
theorem dX11_remember_10 : decode cX11_remember 10 = .ok (.istore_n 1, 1) := by decide +kernel
theorem dX11_remember_11 : decode cX11_remember 11 = .ok (.iload_n 1, 1) := by decide +kernel
theorem dX11_remember_12 : decode cX11_remember 12 = .ok (.sipush 5057, 3) := by decide +kernel
theorem dX11_remember_15 : decode cX11_remember 15 = .ok (.if_icmp .ge 25, 3) := by decide +kernel
theorem dX11_remember_18 : decode cX11_remember 18 = .ok (.aload_n 0, 1) := by decide +kernel
theorem dX11_remember_19 : decode cX11_remember 19 = .ok (.getfield 19, 3) := by decide +kernel
theorem dX11_remember_22 : decode cX11_remember 22 = .ok (.iload_n 1, 1) := by decide +kernel
theorem dX11_remember_23 : decode cX11_remember 23 = .ok (.aload_n 0, 1) := by decide +kernel
theorem dX11_remember_24 : decode cX11_remember 24 = .ok (.getfield 19, 3) := by decide +kernel
theorem dX11_remember_27 : decode cX11_remember 27 = .ok (.sipush 389, 3) := by decide +kernel
theorem dX11_remember_30 : decode cX11_remember 30 = .ok (.iload_n 1, 1) := by decide +kernel
theorem dX11_remember_31 : decode cX11_remember 31 = .ok (.iadd, 1) := by decide +kernel
theorem dX11_remember_32 : decode cX11_remember 32 = .ok (.iaload, 1) := by decide +kernel
theorem dX11_remember_33 : decode cX11_remember 33 = .ok (.iastore, 1) := by decide +kernel
theorem dX11_remember_34 : decode cX11_remember 34 = .ok (.iinc 1 1, 3) := by decide +kernel
theorem dX11_remember_37 : decode cX11_remember 37 = .ok (.goto (-26), 3) := by decide +kernel
theorem dX11_remember_40 : decode cX11_remember 40 = .ok (.aload_n 0, 1) := by decide +kernel
theorem dX11_remember_41 : decode cX11_remember 41 = .ok (.dup, 1) := by decide +kernel
theorem dX11_remember_42 : decode cX11_remember 42 = .ok (.getfield 112, 3) := by decide +kernel
theorem dX11_remember_45 : decode cX11_remember 45 = .ok (.iconst 1, 1) := by decide +kernel
theorem dX11_remember_46 : decode cX11_remember 46 = .ok (.isub, 1) := by decide +kernel
theorem dX11_remember_47 : decode cX11_remember 47 = .ok (.putfield 112, 3) := by decide +kernel
theorem dX11_remember_50 : decode cX11_remember 50 = .ok (.iconst 0, 1) := by decide +kernel
theorem dX11_remember_51 : decode cX11_remember 51 = .ok (.istore_n 1, 1) := by decide +kernel
theorem dX11_remember_52 : decode cX11_remember 52 = .ok (.iload_n 1, 1) := by decide +kernel
theorem dX11_remember_53 : decode cX11_remember 53 = .ok (.sipush 389, 3) := by decide +kernel
theorem dX11_remember_56 : decode cX11_remember 56 = .ok (.if_icmp .ge 30, 3) := by decide +kernel
theorem dX11_remember_59 : decode cX11_remember 59 = .ok (.aload_n 0, 1) := by decide +kernel
theorem dX11_remember_60 : decode cX11_remember 60 = .ok (.getfield 19, 3) := by decide +kernel
theorem dX11_remember_63 : decode cX11_remember 63 = .ok (.sipush 389, 3) := by decide +kernel
theorem dX11_remember_66 : decode cX11_remember 66 = .ok (.aload_n 0, 1) := by decide +kernel
theorem dX11_remember_67 : decode cX11_remember 67 = .ok (.getfield 112, 3) := by decide +kernel
theorem dX11_remember_70 : decode cX11_remember 70 = .ok (.imul, 1) := by decide +kernel
theorem dX11_remember_71 : decode cX11_remember 71 = .ok (.iload_n 1, 1) := by decide +kernel
theorem dX11_remember_72 : decode cX11_remember 72 = .ok (.iadd, 1) := by decide +kernel
theorem dX11_remember_73 : decode cX11_remember 73 = .ok (.aload_n 0, 1) := by decide +kernel
theorem dX11_remember_74 : decode cX11_remember 74 = .ok (.getfield 7, 3) := by decide +kernel
theorem dX11_remember_77 : decode cX11_remember 77 = .ok (.iload_n 1, 1) := by decide +kernel
theorem dX11_remember_78 : decode cX11_remember 78 = .ok (.iaload, 1) := by decide +kernel
theorem dX11_remember_79 : decode cX11_remember 79 = .ok (.iastore, 1) := by decide +kernel
theorem dX11_remember_80 : decode cX11_remember 80 = .ok (.iinc 1 1, 3) := by decide +kernel
theorem dX11_remember_83 : decode cX11_remember 83 = .ok (.goto (-31), 3) := by decide +kernel
theorem dX11_remember_86 : decode cX11_remember 86 = .ok (.aload_n 0, 1) := by decide +kernel
theorem dX11_remember_87 : decode cX11_remember 87 = .ok (.dup, 1) := by decide +kernel
theorem dX11_remember_88 : decode cX11_remember 88 = .ok (.getfield 112, 3) := by decide +kernel
theorem dX11_remember_91 : decode cX11_remember 91 = .ok (.iconst 1, 1) := by decide +kernel
theorem dX11_remember_92 : decode cX11_remember 92 = .ok (.iadd, 1) := by decide +kernel
theorem dX11_remember_93 : decode cX11_remember 93 = .ok (.putfield 112, 3) := by decide +kernel
theorem dX11_remember_96 : decode cX11_remember 96 = .ok (.return_, 1) := by decide +kernel
theorem dX11_append_0 : decode cX11_append 0 = .ok (.aload_n 0, 1) := by decide +kernel
theorem dX11_append_1 : decode cX11_append 1 = .ok (.iload_n 1, 1) := by decide +kernel
theorem dX11_append_2 : decode cX11_append 2 = .ok (.i2l, 1) := by decide +kernel
theorem dX11_append_3 : decode cX11_append 3 = .ok (.lconst 0, 1) := by decide +kernel
theorem dX11_append_4 : decode cX11_append 4 = .ok (.ldc2_w 115, 3) := by decide +kernel
theorem dX11_append_7 : decode cX11_append 7 = .ok (.invokestatic 45, 3) := by decide +kernel
theorem dX11_append_10 : decode cX11_append 10 = .ok (.ifCond .ne 7, 3) := by decide +kernel
theorem dX11_append_13 : decode cX11_append 13 = .ok (.iconst 1, 1) := by decide +kernel
theorem dX11_append_14 : decode cX11_append 14 = .ok (.goto 17, 3) := by decide +kernel
theorem dX11_append_17 : decode cX11_append 17 = .ok (.aload_n 0, 1) := by decide +kernel
theorem dX11_append_18 : decode cX11_append 18 = .ok (.getfield 117, 3) := by decide +kernel
theorem dX11_append_21 : decode cX11_append 21 = .ok (.bipush 120, 2) := by decide +kernel
theorem dX11_append_23 : decode cX11_append 23 = .ok (.if_icmp .ne 7, 3) := by decide +kernel
theorem dX11_append_26 : decode cX11_append 26 = .ok (.iconst 2, 1) := by decide +kernel
theorem dX11_append_27 : decode cX11_append 27 = .ok (.goto 4, 3) := by decide +kernel
theorem dX11_append_30 : decode cX11_append 30 = .ok (.iconst 0, 1) := by decide +kernel
theorem dX11_append_31 : decode cX11_append 31 = .ok (.invokevirtual 120, 3) := by decide +kernel
theorem dX11_append_34 : decode cX11_append 34 = .ok (.ifCond .eq 5, 3) := by decide +kernel
theorem dX11_append_37 : decode cX11_append 37 = .ok (.iconst 0, 1) := by decide +kernel
theorem dX11_append_38 : decode cX11_append 38 = .ok (.ireturn, 1) := by decide +kernel
theorem dX11_append_39 : decode cX11_append 39 = .ok (.aload_n 0, 1) := by decide +kernel
theorem dX11_append_40 : decode cX11_append 40 = .ok (.getfield 32, 3) := by decide +kernel
theorem dX11_append_43 : decode cX11_append 43 = .ok (.aload_n 0, 1) := by decide +kernel
theorem dX11_append_44 : decode cX11_append 44 = .ok (.getfield 117, 3) := by decide +kernel
theorem dX11_append_47 : decode cX11_append 47 = .ok (.iload_n 1, 1) := by decide +kernel
theorem dX11_append_48 : decode cX11_append 48 = .ok (.iastore, 1) := by decide +kernel
theorem dX11_append_49 : decode cX11_append 49 = .ok (.aload_n 0, 1) := by decide +kernel
theorem dX11_append_50 : decode cX11_append 50 = .ok (.dup, 1) := by decide +kernel
theorem dX11_append_51 : decode cX11_append 51 = .ok (.getfield 117, 3) := by decide +kernel
theorem dX11_append_54 : decode cX11_append 54 = .ok (.iconst 1, 1) := by decide +kernel
theorem dX11_append_55 : decode cX11_append 55 = .ok (.iadd, 1) := by decide +kernel
theorem dX11_append_56 : decode cX11_append 56 = .ok (.putfield 117, 3) := by decide +kernel
theorem dX11_append_59 : decode cX11_append 59 = .ok (.aload_n 0, 1) := by decide +kernel
theorem dX11_append_60 : decode cX11_append 60 = .ok (.getfield 117, 3) := by decide +kernel
theorem dX11_append_63 : decode cX11_append 63 = .ok (.ireturn, 1) := by decide +kernel
theorem dX11_clearText_0 : decode cX11_clearText 0 = .ok (.aload_n 0, 1) := by decide +kernel
theorem dX11_clearText_1 : decode cX11_clearText 1 = .ok (.iconst 0, 1) := by decide +kernel
theorem dX11_clearText_2 : decode cX11_clearText 2 = .ok (.putfield 39, 3) := by decide +kernel
theorem dX11_clearText_5 : decode cX11_clearText 5 = .ok (.aload_n 0, 1) := by decide +kernel
theorem dX11_clearText_6 : decode cX11_clearText 6 = .ok (.getfield 117, 3) := by decide +kernel
theorem dX11_clearText_9 : decode cX11_clearText 9 = .ok (.istore_n 1, 1) := by decide +kernel
theorem dX11_clearText_10 : decode cX11_clearText 10 = .ok (.aload_n 0, 1) := by decide +kernel
theorem dX11_clearText_11 : decode cX11_clearText 11 = .ok (.iconst 0, 1) := by decide +kernel
theorem dX11_clearText_12 : decode cX11_clearText 12 = .ok (.putfield 117, 3) := by decide +kernel
theorem dX11_clearText_15 : decode cX11_clearText 15 = .ok (.iload_n 1, 1) := by decide +kernel
theorem dX11_clearText_16 : decode cX11_clearText 16 = .ok (.ireturn, 1) := by decide +kernel
theorem dX11_here_0 : decode cX11_here 0 = .ok (.aload_n 0, 1) := by decide +kernel
theorem dX11_here_1 : decode cX11_here 1 = .ok (.getfield 124, 3) := by decide +kernel
theorem dX11_here_4 : decode cX11_here 4 = .ok (.aload_n 0, 1) := by decide +kernel
theorem dX11_here_5 : decode cX11_here 5 = .ok (.getfield 117, 3) := by decide +kernel
theorem dX11_here_8 : decode cX11_here 8 = .ok (.if_icmp .ge 15, 3) := by decide +kernel
theorem dX11_here_11 : decode cX11_here 11 = .ok (.aload_n 0, 1) := by decide +kernel
theorem dX11_here_12 : decode cX11_here 12 = .ok (.getfield 32, 3) := by decide +kernel
theorem dX11_here_15 : decode cX11_here 15 = .ok (.aload_n 0, 1) := by decide +kernel
theorem dX11_here_16 : decode cX11_here 16 = .ok (.getfield 124, 3) := by decide +kernel
theorem dX11_here_19 : decode cX11_here 19 = .ok (.iaload, 1) := by decide +kernel
theorem dX11_here_20 : decode cX11_here 20 = .ok (.goto 4, 3) := by decide +kernel
theorem dX11_here_23 : decode cX11_here 23 = .ok (.iconst (-1), 1) := by decide +kernel
theorem dX11_here_24 : decode cX11_here 24 = .ok (.ireturn, 1) := by decide +kernel
theorem dX11_take_0 : decode cX11_take 0 = .ok (.aload_n 0, 1) := by decide +kernel
theorem dX11_take_1 : decode cX11_take 1 = .ok (.aload_n 0, 1) := by decide +kernel
theorem dX11_take_2 : decode cX11_take 2 = .ok (.getfield 127, 3) := by decide +kernel
theorem dX11_take_5 : decode cX11_take 5 = .ok (.ifCond .eq 11, 3) := by decide +kernel
theorem dX11_take_8 : decode cX11_take 8 = .ok (.iload_n 1, 1) := by decide +kernel
theorem dX11_take_9 : decode cX11_take 9 = .ok (.ifCond .eq 7, 3) := by decide +kernel
theorem dX11_take_12 : decode cX11_take 12 = .ok (.iconst 1, 1) := by decide +kernel
theorem dX11_take_13 : decode cX11_take 13 = .ok (.goto 4, 3) := by decide +kernel
theorem dX11_take_16 : decode cX11_take 16 = .ok (.iconst 0, 1) := by decide +kernel
theorem dX11_take_17 : decode cX11_take 17 = .ok (.putfield 127, 3) := by decide +kernel
theorem dX11_take_20 : decode cX11_take 20 = .ok (.aload_n 0, 1) := by decide +kernel
theorem dX11_take_21 : decode cX11_take 21 = .ok (.dup, 1) := by decide +kernel
theorem dX11_take_22 : decode cX11_take 22 = .ok (.getfield 124, 3) := by decide +kernel
theorem dX11_take_25 : decode cX11_take 25 = .ok (.aload_n 0, 1) := by decide +kernel
theorem dX11_take_26 : decode cX11_take 26 = .ok (.getfield 127, 3) := by decide +kernel
theorem dX11_take_29 : decode cX11_take 29 = .ok (.ifCond .eq 7, 3) := by decide +kernel
theorem dX11_take_32 : decode cX11_take 32 = .ok (.iconst 1, 1) := by decide +kernel
theorem dX11_take_33 : decode cX11_take 33 = .ok (.goto 4, 3) := by decide +kernel
theorem dX11_take_36 : decode cX11_take 36 = .ok (.iconst 0, 1) := by decide +kernel
theorem dX11_take_37 : decode cX11_take 37 = .ok (.iadd, 1) := by decide +kernel
theorem dX11_take_38 : decode cX11_take 38 = .ok (.putfield 124, 3) := by decide +kernel
theorem dX11_take_41 : decode cX11_take 41 = .ok (.return_, 1) := by decide +kernel
theorem dX11_digit_0 : decode cX11_digit 0 = .ok (.aload_n 0, 1) := by decide +kernel
theorem dX11_digit_1 : decode cX11_digit 1 = .ok (.invokevirtual 131, 3) := by decide +kernel
theorem dX11_digit_4 : decode cX11_digit 4 = .ok (.bipush 48, 2) := by decide +kernel
theorem dX11_digit_6 : decode cX11_digit 6 = .ok (.isub, 1) := by decide +kernel
theorem dX11_digit_7 : decode cX11_digit 7 = .ok (.istore_n 3, 1) := by decide +kernel
theorem dX11_digit_8 : decode cX11_digit 8 = .ok (.aload_n 0, 1) := by decide +kernel
theorem dX11_digit_9 : decode cX11_digit 9 = .ok (.iload_n 3, 1) := by decide +kernel
theorem dX11_digit_10 : decode cX11_digit 10 = .ok (.i2l, 1) := by decide +kernel
theorem dX11_digit_11 : decode cX11_digit 11 = .ok (.iload_n 1, 1) := by decide +kernel
theorem dX11_digit_12 : decode cX11_digit 12 = .ok (.i2l, 1) := by decide +kernel
theorem dX11_digit_13 : decode cX11_digit 13 = .ok (.iload_n 2, 1) := by decide +kernel
theorem dX11_digit_14 : decode cX11_digit 14 = .ok (.i2l, 1) := by decide +kernel
theorem dX11_digit_15 : decode cX11_digit 15 = .ok (.invokestatic 45, 3) := by decide +kernel
theorem dX11_digit_18 : decode cX11_digit 18 = .ok (.invokevirtual 135, 3) := by decide +kernel
theorem dX11_digit_21 : decode cX11_digit 21 = .ok (.aload_n 0, 1) := by decide +kernel
theorem dX11_digit_22 : decode cX11_digit 22 = .ok (.getfield 127, 3) := by decide +kernel
theorem dX11_digit_25 : decode cX11_digit 25 = .ok (.ifCond .eq 7, 3) := by decide +kernel
theorem dX11_digit_28 : decode cX11_digit 28 = .ok (.iload_n 3, 1) := by decide +kernel
theorem dX11_digit_29 : decode cX11_digit 29 = .ok (.goto 4, 3) := by decide +kernel
theorem dX11_digit_32 : decode cX11_digit 32 = .ok (.iload_n 1, 1) := by decide +kernel
theorem dX11_digit_33 : decode cX11_digit 33 = .ok (.ireturn, 1) := by decide +kernel
theorem dX11_two_0 : decode cX11_two 0 = .ok (.aload_n 0, 1) := by decide +kernel
theorem dX11_two_1 : decode cX11_two 1 = .ok (.iconst 0, 1) := by decide +kernel
theorem dX11_two_2 : decode cX11_two 2 = .ok (.iload_n 1, 1) := by decide +kernel
theorem dX11_two_3 : decode cX11_two 3 = .ok (.bipush 10, 2) := by decide +kernel
theorem dX11_two_5 : decode cX11_two 5 = .ok (.idiv, 1) := by decide +kernel
theorem dX11_two_6 : decode cX11_two 6 = .ok (.invokevirtual 139, 3) := by decide +kernel
theorem dX11_two_9 : decode cX11_two 9 = .ok (.istore_n 2, 1) := by decide +kernel
theorem dX11_two_10 : decode cX11_two 10 = .ok (.bipush 10, 2) := by decide +kernel
theorem dX11_two_12 : decode cX11_two 12 = .ok (.iload_n 2, 1) := by decide +kernel
theorem dX11_two_13 : decode cX11_two 13 = .ok (.imul, 1) := by decide +kernel
theorem dX11_two_14 : decode cX11_two 14 = .ok (.aload_n 0, 1) := by decide +kernel
theorem dX11_two_15 : decode cX11_two 15 = .ok (.iconst 0, 1) := by decide +kernel
theorem dX11_two_16 : decode cX11_two 16 = .ok (.iload_n 2, 1) := by decide +kernel
theorem dX11_two_17 : decode cX11_two 17 = .ok (.iload_n 1, 1) := by decide +kernel
theorem dX11_two_18 : decode cX11_two 18 = .ok (.bipush 10, 2) := by decide +kernel
theorem dX11_two_20 : decode cX11_two 20 = .ok (.idiv, 1) := by decide +kernel
theorem dX11_two_21 : decode cX11_two 21 = .ok (.if_icmp .ne 10, 3) := by decide +kernel
theorem dX11_two_24 : decode cX11_two 24 = .ok (.iload_n 1, 1) := by decide +kernel
theorem dX11_two_25 : decode cX11_two 25 = .ok (.bipush 10, 2) := by decide +kernel
theorem dX11_two_27 : decode cX11_two 27 = .ok (.irem, 1) := by decide +kernel
theorem dX11_two_28 : decode cX11_two 28 = .ok (.goto 5, 3) := by decide +kernel
theorem dX11_two_31 : decode cX11_two 31 = .ok (.bipush 9, 2) := by decide +kernel
theorem dX11_two_33 : decode cX11_two 33 = .ok (.invokevirtual 139, 3) := by decide +kernel
theorem dX11_two_36 : decode cX11_two 36 = .ok (.iadd, 1) := by decide +kernel
theorem dX11_two_37 : decode cX11_two 37 = .ok (.ireturn, 1) := by decide +kernel
theorem dX11_goes_0 : decode cX11_goes 0 = .ok (.aload_n 0, 1) := by decide +kernel
theorem dX11_goes_1 : decode cX11_goes 1 = .ok (.dup, 1) := by decide +kernel
theorem dX11_goes_2 : decode cX11_goes 2 = .ok (.getfield 143, 3) := by decide +kernel
theorem dX11_goes_5 : decode cX11_goes 5 = .ok (.aload_n 0, 1) := by decide +kernel
theorem dX11_goes_6 : decode cX11_goes 6 = .ok (.getfield 127, 3) := by decide +kernel
theorem dX11_goes_9 : decode cX11_goes 9 = .ok (.ifCond .eq 11, 3) := by decide +kernel
theorem dX11_goes_12 : decode cX11_goes 12 = .ok (.iload_n 1, 1) := by decide +kernel
theorem dX11_goes_13 : decode cX11_goes 13 = .ok (.ifCond .ne 7, 3) := by decide +kernel
theorem dX11_goes_16 : decode cX11_goes 16 = .ok (.iconst 1, 1) := by decide +kernel
theorem dX11_goes_17 : decode cX11_goes 17 = .ok (.goto 4, 3) := by decide +kernel
theorem dX11_goes_20 : decode cX11_goes 20 = .ok (.iconst 0, 1) := by decide +kernel
theorem dX11_goes_21 : decode cX11_goes 21 = .ok (.iadd, 1) := by decide +kernel
theorem dX11_goes_22 : decode cX11_goes 22 = .ok (.putfield 143, 3) := by decide +kernel
theorem dX11_goes_25 : decode cX11_goes 25 = .ok (.aload_n 0, 1) := by decide +kernel
theorem dX11_goes_26 : decode cX11_goes 26 = .ok (.getfield 127, 3) := by decide +kernel
theorem dX11_goes_29 : decode cX11_goes 29 = .ok (.ifCond .eq 11, 3) := by decide +kernel
theorem dX11_goes_32 : decode cX11_goes 32 = .ok (.iload_n 1, 1) := by decide +kernel
theorem dX11_goes_33 : decode cX11_goes 33 = .ok (.ifCond .eq 7, 3) := by decide +kernel
theorem dX11_goes_36 : decode cX11_goes 36 = .ok (.iconst 1, 1) := by decide +kernel
theorem dX11_goes_37 : decode cX11_goes 37 = .ok (.goto 4, 3) := by decide +kernel
theorem dX11_goes_40 : decode cX11_goes 40 = .ok (.iconst 0, 1) := by decide +kernel
theorem dX11_goes_41 : decode cX11_goes 41 = .ok (.ireturn, 1) := by decide +kernel
theorem dX11_readLetters_0 : decode cX11_readLetters 0 = .ok (.iconst 0, 1) := by decide +kernel
theorem dX11_readLetters_1 : decode cX11_readLetters 1 = .ok (.istore_n 1, 1) := by decide +kernel
theorem dX11_readLetters_2 : decode cX11_readLetters 2 = .ok (.aload_n 0, 1) := by decide +kernel
theorem dX11_readLetters_3 : decode cX11_readLetters 3 = .ok (.iconst 0, 1) := by decide +kernel
theorem dX11_readLetters_4 : decode cX11_readLetters 4 = .ok (.putfield 146, 3) := by decide +kernel
theorem dX11_readLetters_7 : decode cX11_readLetters 7 = .ok (.aload_n 0, 1) := by decide +kernel
theorem dX11_readLetters_8 : decode cX11_readLetters 8 = .ok (.getfield 127, 3) := by decide +kernel
theorem dX11_readLetters_11 : decode cX11_readLetters 11 = .ok (.ifCond .eq 79, 3) := by decide +kernel
theorem dX11_readLetters_14 : decode cX11_readLetters 14 = .ok (.aload_n 0, 1) := by decide +kernel
theorem dX11_readLetters_15 : decode cX11_readLetters 15 = .ok (.getfield 146, 3) := by decide +kernel
theorem dX11_readLetters_18 : decode cX11_readLetters 18 = .ok (.iconst 4, 1) := by decide +kernel
theorem dX11_readLetters_19 : decode cX11_readLetters 19 = .ok (.if_icmp .ge 71, 3) := by decide +kernel
theorem dX11_readLetters_22 : decode cX11_readLetters 22 = .ok (.aload_n 0, 1) := by decide +kernel
theorem dX11_readLetters_23 : decode cX11_readLetters 23 = .ok (.getfield 146, 3) := by decide +kernel
theorem dX11_readLetters_26 : decode cX11_readLetters 26 = .ok (.ifCond .eq 12, 3) := by decide +kernel
theorem dX11_readLetters_29 : decode cX11_readLetters 29 = .ok (.aload_n 0, 1) := by decide +kernel
theorem dX11_readLetters_30 : decode cX11_readLetters 30 = .ok (.invokevirtual 131, 3) := by decide +kernel
theorem dX11_readLetters_33 : decode cX11_readLetters 33 = .ok (.bipush 46, 2) := by decide +kernel
theorem dX11_readLetters_35 : decode cX11_readLetters 35 = .ok (.if_icmp .eq 55, 3) := by decide +kernel
theorem dX11_readLetters_38 : decode cX11_readLetters 38 = .ok (.aload_n 0, 1) := by decide +kernel
theorem dX11_readLetters_39 : decode cX11_readLetters 39 = .ok (.invokevirtual 131, 3) := by decide +kernel
theorem dX11_readLetters_42 : decode cX11_readLetters 42 = .ok (.bipush 65, 2) := by decide +kernel
theorem dX11_readLetters_44 : decode cX11_readLetters 44 = .ok (.isub, 1) := by decide +kernel
theorem dX11_readLetters_45 : decode cX11_readLetters 45 = .ok (.istore_n 2, 1) := by decide +kernel
theorem dX11_readLetters_46 : decode cX11_readLetters 46 = .ok (.aload_n 0, 1) := by decide +kernel
theorem dX11_readLetters_47 : decode cX11_readLetters 47 = .ok (.iload_n 2, 1) := by decide +kernel
theorem dX11_readLetters_48 : decode cX11_readLetters 48 = .ok (.i2l, 1) := by decide +kernel
theorem dX11_readLetters_49 : decode cX11_readLetters 49 = .ok (.lconst 0, 1) := by decide +kernel
theorem dX11_readLetters_50 : decode cX11_readLetters 50 = .ok (.ldc2_w 149, 3) := by decide +kernel
theorem dX11_readLetters_53 : decode cX11_readLetters 53 = .ok (.invokestatic 45, 3) := by decide +kernel
theorem dX11_readLetters_56 : decode cX11_readLetters 56 = .ok (.invokevirtual 135, 3) := by decide +kernel
theorem dX11_readLetters_59 : decode cX11_readLetters 59 = .ok (.bipush 26, 2) := by decide +kernel
theorem dX11_readLetters_61 : decode cX11_readLetters 61 = .ok (.iload_n 1, 1) := by decide +kernel
theorem dX11_readLetters_62 : decode cX11_readLetters 62 = .ok (.imul, 1) := by decide +kernel
theorem dX11_readLetters_63 : decode cX11_readLetters 63 = .ok (.aload_n 0, 1) := by decide +kernel
theorem dX11_readLetters_64 : decode cX11_readLetters 64 = .ok (.getfield 127, 3) := by decide +kernel
theorem dX11_readLetters_67 : decode cX11_readLetters 67 = .ok (.ifCond .eq 7, 3) := by decide +kernel
theorem dX11_readLetters_70 : decode cX11_readLetters 70 = .ok (.iload_n 2, 1) := by decide +kernel
theorem dX11_readLetters_71 : decode cX11_readLetters 71 = .ok (.goto 4, 3) := by decide +kernel
theorem dX11_readLetters_74 : decode cX11_readLetters 74 = .ok (.iconst 0, 1) := by decide +kernel
theorem dX11_readLetters_75 : decode cX11_readLetters 75 = .ok (.iadd, 1) := by decide +kernel
theorem dX11_readLetters_76 : decode cX11_readLetters 76 = .ok (.istore_n 1, 1) := by decide +kernel
theorem dX11_readLetters_77 : decode cX11_readLetters 77 = .ok (.aload_n 0, 1) := by decide +kernel
theorem dX11_readLetters_78 : decode cX11_readLetters 78 = .ok (.dup, 1) := by decide +kernel
theorem dX11_readLetters_79 : decode cX11_readLetters 79 = .ok (.getfield 146, 3) := by decide +kernel
theorem dX11_readLetters_82 : decode cX11_readLetters 82 = .ok (.iconst 1, 1) := by decide +kernel
theorem dX11_readLetters_83 : decode cX11_readLetters 83 = .ok (.iadd, 1) := by decide +kernel
theorem dX11_readLetters_84 : decode cX11_readLetters 84 = .ok (.putfield 146, 3) := by decide +kernel
theorem dX11_readLetters_87 : decode cX11_readLetters 87 = .ok (.goto (-80), 3) := by decide +kernel
theorem dX11_readLetters_90 : decode cX11_readLetters 90 = .ok (.aload_n 0, 1) := by decide +kernel
theorem dX11_readLetters_91 : decode cX11_readLetters 91 = .ok (.aload_n 0, 1) := by decide +kernel
theorem dX11_readLetters_92 : decode cX11_readLetters 92 = .ok (.invokevirtual 131, 3) := by decide +kernel
theorem dX11_readLetters_95 : decode cX11_readLetters 95 = .ok (.bipush 46, 2) := by decide +kernel
theorem dX11_readLetters_97 : decode cX11_readLetters 97 = .ok (.if_icmp .ne 7, 3) := by decide +kernel
theorem dX11_readLetters_100 : decode cX11_readLetters 100 = .ok (.iconst 1, 1) := by decide +kernel
theorem dX11_readLetters_101 : decode cX11_readLetters 101 = .ok (.goto 4, 3) := by decide +kernel
theorem dX11_readLetters_104 : decode cX11_readLetters 104 = .ok (.iconst 0, 1) := by decide +kernel
theorem dX11_readLetters_105 : decode cX11_readLetters 105 = .ok (.invokevirtual 135, 3) := by decide +kernel
theorem dX11_readLetters_108 : decode cX11_readLetters 108 = .ok (.iload_n 1, 1) := by decide +kernel
theorem dX11_readLetters_109 : decode cX11_readLetters 109 = .ok (.ireturn, 1) := by decide +kernel
theorem dX11_readPerson_0 : decode cX11_readPerson 0 = .ok (.aload_n 0, 1) := by decide +kernel
theorem dX11_readPerson_1 : decode cX11_readPerson 1 = .ok (.bipush 99, 2) := by decide +kernel
theorem dX11_readPerson_3 : decode cX11_readPerson 3 = .ok (.invokevirtual 151, 3) := by decide +kernel
theorem dX11_readPerson_6 : decode cX11_readPerson 6 = .ok (.istore_n 1, 1) := by decide +kernel
theorem dX11_readPerson_7 : decode cX11_readPerson 7 = .ok (.aload_n 0, 1) := by decide +kernel
theorem dX11_readPerson_8 : decode cX11_readPerson 8 = .ok (.iconst 0, 1) := by decide +kernel
theorem dX11_readPerson_9 : decode cX11_readPerson 9 = .ok (.iconst 5, 1) := by decide +kernel
theorem dX11_readPerson_10 : decode cX11_readPerson 10 = .ok (.invokevirtual 139, 3) := by decide +kernel
theorem dX11_readPerson_13 : decode cX11_readPerson 13 = .ok (.istore_n 2, 1) := by decide +kernel
theorem dX11_readPerson_14 : decode cX11_readPerson 14 = .ok (.aload_n 0, 1) := by decide +kernel
theorem dX11_readPerson_15 : decode cX11_readPerson 15 = .ok (.iconst 0, 1) := by decide +kernel
theorem dX11_readPerson_16 : decode cX11_readPerson 16 = .ok (.iconst 3, 1) := by decide +kernel
theorem dX11_readPerson_17 : decode cX11_readPerson 17 = .ok (.invokevirtual 139, 3) := by decide +kernel
theorem dX11_readPerson_20 : decode cX11_readPerson 20 = .ok (.istore_n 3, 1) := by decide +kernel
theorem dX11_readPerson_21 : decode cX11_readPerson 21 = .ok (.aload_n 0, 1) := by decide +kernel
theorem dX11_readPerson_22 : decode cX11_readPerson 22 = .ok (.aload_n 0, 1) := by decide +kernel
theorem dX11_readPerson_23 : decode cX11_readPerson 23 = .ok (.getfield 16, 3) := by decide +kernel
theorem dX11_readPerson_26 : decode cX11_readPerson 26 = .ok (.sipush 380, 3) := by decide +kernel
theorem dX11_readPerson_29 : decode cX11_readPerson 29 = .ok (.iaload, 1) := by decide +kernel
theorem dX11_readPerson_30 : decode cX11_readPerson 30 = .ok (.bipush 12, 2) := by decide +kernel
theorem dX11_readPerson_32 : decode cX11_readPerson 32 = .ok (.if_icmp .ge 7, 3) := by decide +kernel
theorem dX11_readPerson_35 : decode cX11_readPerson 35 = .ok (.iconst 1, 1) := by decide +kernel
theorem dX11_readPerson_36 : decode cX11_readPerson 36 = .ok (.goto 4, 3) := by decide +kernel
theorem dX11_readPerson_39 : decode cX11_readPerson 39 = .ok (.iconst 0, 1) := by decide +kernel
theorem dX11_readPerson_40 : decode cX11_readPerson 40 = .ok (.invokevirtual 154, 3) := by decide +kernel
theorem dX11_readPerson_43 : decode cX11_readPerson 43 = .ok (.ifCond .eq 16, 3) := by decide +kernel
theorem dX11_readPerson_46 : decode cX11_readPerson 46 = .ok (.aload_n 0, 1) := by decide +kernel
theorem dX11_readPerson_47 : decode cX11_readPerson 47 = .ok (.getfield 16, 3) := by decide +kernel
theorem dX11_readPerson_50 : decode cX11_readPerson 50 = .ok (.iload_n 1, 1) := by decide +kernel
theorem dX11_readPerson_51 : decode cX11_readPerson 51 = .ok (.iload_n 2, 1) := by decide +kernel
theorem dX11_readPerson_52 : decode cX11_readPerson 52 = .ok (.iload_n 3, 1) := by decide +kernel
theorem dX11_readPerson_53 : decode cX11_readPerson 53 = .ok (.invokestatic 158, 3) := by decide +kernel
theorem dX11_readPerson_56 : decode cX11_readPerson 56 = .ok (.goto 4, 3) := by decide +kernel
theorem dX11_readPerson_59 : decode cX11_readPerson 59 = .ok (.iconst 0, 1) := by decide +kernel
theorem dX11_readPerson_60 : decode cX11_readPerson 60 = .ok (.ireturn, 1) := by decide +kernel
theorem dX11_readGive_0 : decode cX11_readGive 0 = .ok (.aload_n 0, 1) := by decide +kernel
theorem dX11_readGive_1 : decode cX11_readGive 1 = .ok (.bipush 11, 2) := by decide +kernel
theorem dX11_readGive_3 : decode cX11_readGive 3 = .ok (.invokevirtual 151, 3) := by decide +kernel
theorem dX11_readGive_6 : decode cX11_readGive 6 = .ok (.istore_n 1, 1) := by decide +kernel
theorem dX11_readGive_7 : decode cX11_readGive 7 = .ok (.aload_n 0, 1) := by decide +kernel
theorem dX11_readGive_8 : decode cX11_readGive 8 = .ok (.bipush 11, 2) := by decide +kernel
theorem dX11_readGive_10 : decode cX11_readGive 10 = .ok (.invokevirtual 151, 3) := by decide +kernel
theorem dX11_readGive_13 : decode cX11_readGive 13 = .ok (.istore_n 2, 1) := by decide +kernel
theorem dX11_readGive_14 : decode cX11_readGive 14 = .ok (.aload_n 0, 1) := by decide +kernel
theorem dX11_readGive_15 : decode cX11_readGive 15 = .ok (.invokevirtual 161, 3) := by decide +kernel
theorem dX11_readGive_18 : decode cX11_readGive 18 = .ok (.istore_n 3, 1) := by decide +kernel
theorem dX11_readGive_19 : decode cX11_readGive 19 = .ok (.aload_n 0, 1) := by decide +kernel
theorem dX11_readGive_20 : decode cX11_readGive 20 = .ok (.getfield 127, 3) := by decide +kernel
theorem dX11_readGive_23 : decode cX11_readGive 23 = .ok (.ifCond .eq 46, 3) := by decide +kernel
theorem dX11_readGive_26 : decode cX11_readGive 26 = .ok (.aload_n 0, 1) := by decide +kernel
theorem dX11_readGive_27 : decode cX11_readGive 27 = .ok (.getfield 16, 3) := by decide +kernel
theorem dX11_readGive_30 : decode cX11_readGive 30 = .ok (.iload_n 1, 1) := by decide +kernel
theorem dX11_readGive_31 : decode cX11_readGive 31 = .ok (.invokestatic 164, 3) := by decide +kernel
theorem dX11_readGive_34 : decode cX11_readGive 34 = .ok (.ifCond .eq 35, 3) := by decide +kernel
theorem dX11_readGive_37 : decode cX11_readGive 37 = .ok (.aload_n 0, 1) := by decide +kernel
theorem dX11_readGive_38 : decode cX11_readGive 38 = .ok (.getfield 16, 3) := by decide +kernel
theorem dX11_readGive_41 : decode cX11_readGive 41 = .ok (.iload_n 2, 1) := by decide +kernel
theorem dX11_readGive_42 : decode cX11_readGive 42 = .ok (.invokestatic 164, 3) := by decide +kernel
theorem dX11_readGive_45 : decode cX11_readGive 45 = .ok (.ifCond .eq 24, 3) := by decide +kernel
theorem dX11_readGive_48 : decode cX11_readGive 48 = .ok (.aload_n 0, 1) := by decide +kernel
theorem dX11_readGive_49 : decode cX11_readGive 49 = .ok (.getfield 16, 3) := by decide +kernel
theorem dX11_readGive_52 : decode cX11_readGive 52 = .ok (.iload_n 1, 1) := by decide +kernel
theorem dX11_readGive_53 : decode cX11_readGive 53 = .ok (.iload_n 2, 1) := by decide +kernel
theorem dX11_readGive_54 : decode cX11_readGive 54 = .ok (.aload_n 0, 1) := by decide +kernel
theorem dX11_readGive_55 : decode cX11_readGive 55 = .ok (.getfield 146, 3) := by decide +kernel
theorem dX11_readGive_58 : decode cX11_readGive 58 = .ok (.iload_n 3, 1) := by decide +kernel
theorem dX11_readGive_59 : decode cX11_readGive 59 = .ok (.invokestatic 87, 3) := by decide +kernel
theorem dX11_readGive_62 : decode cX11_readGive 62 = .ok (.ifCond .ne 7, 3) := by decide +kernel
theorem dX11_readGive_65 : decode cX11_readGive 65 = .ok (.iconst 1, 1) := by decide +kernel
theorem dX11_readGive_66 : decode cX11_readGive 66 = .ok (.goto 4, 3) := by decide +kernel
theorem dX11_readGive_69 : decode cX11_readGive 69 = .ok (.iconst 0, 1) := by decide +kernel
theorem dX11_readGive_70 : decode cX11_readGive 70 = .ok (.istore 4, 2) := by decide +kernel
theorem dX11_readGive_72 : decode cX11_readGive 72 = .ok (.aload_n 0, 1) := by decide +kernel
theorem dX11_readGive_73 : decode cX11_readGive 73 = .ok (.iload 4, 2) := by decide +kernel
theorem dX11_readGive_75 : decode cX11_readGive 75 = .ok (.invokevirtual 154, 3) := by decide +kernel
theorem dX11_readGive_78 : decode cX11_readGive 78 = .ok (.ifCond .eq 20, 3) := by decide +kernel
theorem dX11_readGive_81 : decode cX11_readGive 81 = .ok (.aload_n 0, 1) := by decide +kernel
theorem dX11_readGive_82 : decode cX11_readGive 82 = .ok (.getfield 16, 3) := by decide +kernel
theorem dX11_readGive_85 : decode cX11_readGive 85 = .ok (.iload_n 1, 1) := by decide +kernel
theorem dX11_readGive_86 : decode cX11_readGive 86 = .ok (.iload_n 2, 1) := by decide +kernel
theorem dX11_readGive_87 : decode cX11_readGive 87 = .ok (.aload_n 0, 1) := by decide +kernel
theorem dX11_readGive_88 : decode cX11_readGive 88 = .ok (.getfield 146, 3) := by decide +kernel
theorem dX11_readGive_91 : decode cX11_readGive 91 = .ok (.iload_n 3, 1) := by decide +kernel
theorem dX11_readGive_92 : decode cX11_readGive 92 = .ok (.invokestatic 167, 3) := by decide +kernel
theorem dX11_readGive_95 : decode cX11_readGive 95 = .ok (.goto 4, 3) := by decide +kernel
theorem dX11_readGive_98 : decode cX11_readGive 98 = .ok (.iconst 0, 1) := by decide +kernel
theorem dX11_readGive_99 : decode cX11_readGive 99 = .ok (.ireturn, 1) := by decide +kernel
theorem dX11_readCall_0 : decode cX11_readCall 0 = .ok (.aload_n 0, 1) := by decide +kernel
theorem dX11_readCall_1 : decode cX11_readCall 1 = .ok (.iconst 0, 1) := by decide +kernel
theorem dX11_readCall_2 : decode cX11_readCall 2 = .ok (.iconst 3, 1) := by decide +kernel
theorem dX11_readCall_3 : decode cX11_readCall 3 = .ok (.invokevirtual 139, 3) := by decide +kernel
theorem dX11_readCall_6 : decode cX11_readCall 6 = .ok (.istore_n 1, 1) := by decide +kernel
theorem dX11_readCall_7 : decode cX11_readCall 7 = .ok (.aload_n 0, 1) := by decide +kernel
theorem dX11_readCall_8 : decode cX11_readCall 8 = .ok (.invokevirtual 161, 3) := by decide +kernel
theorem dX11_readCall_11 : decode cX11_readCall 11 = .ok (.istore_n 2, 1) := by decide +kernel
theorem dX11_readCall_12 : decode cX11_readCall 12 = .ok (.aload_n 0, 1) := by decide +kernel
theorem dX11_readCall_13 : decode cX11_readCall 13 = .ok (.aload_n 0, 1) := by decide +kernel
theorem dX11_readCall_14 : decode cX11_readCall 14 = .ok (.getfield 127, 3) := by decide +kernel
theorem dX11_readCall_17 : decode cX11_readCall 17 = .ok (.ifCond .eq 24, 3) := by decide +kernel
theorem dX11_readCall_20 : decode cX11_readCall 20 = .ok (.aload_n 0, 1) := by decide +kernel
theorem dX11_readCall_21 : decode cX11_readCall 21 = .ok (.getfield 16, 3) := by decide +kernel
theorem dX11_readCall_24 : decode cX11_readCall 24 = .ok (.iload_n 1, 1) := by decide +kernel
theorem dX11_readCall_25 : decode cX11_readCall 25 = .ok (.aload_n 0, 1) := by decide +kernel
theorem dX11_readCall_26 : decode cX11_readCall 26 = .ok (.getfield 146, 3) := by decide +kernel
theorem dX11_readCall_29 : decode cX11_readCall 29 = .ok (.iload_n 2, 1) := by decide +kernel
theorem dX11_readCall_30 : decode cX11_readCall 30 = .ok (.invokestatic 170, 3) := by decide +kernel
theorem dX11_readCall_33 : decode cX11_readCall 33 = .ok (.iconst (-1), 1) := by decide +kernel
theorem dX11_readCall_34 : decode cX11_readCall 34 = .ok (.if_icmp .eq 7, 3) := by decide +kernel
theorem dX11_readCall_37 : decode cX11_readCall 37 = .ok (.iconst 1, 1) := by decide +kernel
theorem dX11_readCall_38 : decode cX11_readCall 38 = .ok (.goto 4, 3) := by decide +kernel
theorem dX11_readCall_41 : decode cX11_readCall 41 = .ok (.iconst 0, 1) := by decide +kernel
theorem dX11_readCall_42 : decode cX11_readCall 42 = .ok (.invokevirtual 154, 3) := by decide +kernel
theorem dX11_readCall_45 : decode cX11_readCall 45 = .ok (.ifCond .eq 19, 3) := by decide +kernel
theorem dX11_readCall_48 : decode cX11_readCall 48 = .ok (.aload_n 0, 1) := by decide +kernel
theorem dX11_readCall_49 : decode cX11_readCall 49 = .ok (.getfield 16, 3) := by decide +kernel
theorem dX11_readCall_52 : decode cX11_readCall 52 = .ok (.iload_n 1, 1) := by decide +kernel
theorem dX11_readCall_53 : decode cX11_readCall 53 = .ok (.aload_n 0, 1) := by decide +kernel
theorem dX11_readCall_54 : decode cX11_readCall 54 = .ok (.getfield 146, 3) := by decide +kernel
theorem dX11_readCall_57 : decode cX11_readCall 57 = .ok (.iload_n 2, 1) := by decide +kernel
theorem dX11_readCall_58 : decode cX11_readCall 58 = .ok (.invokestatic 173, 3) := by decide +kernel
theorem dX11_readCall_61 : decode cX11_readCall 61 = .ok (.goto 4, 3) := by decide +kernel
theorem dX11_readCall_64 : decode cX11_readCall 64 = .ok (.iconst 0, 1) := by decide +kernel
theorem dX11_readCall_65 : decode cX11_readCall 65 = .ok (.ireturn, 1) := by decide +kernel
theorem dX11_readSit_0 : decode cX11_readSit 0 = .ok (.aload_n 0, 1) := by decide +kernel
theorem dX11_readSit_1 : decode cX11_readSit 1 = .ok (.bipush 11, 2) := by decide +kernel
theorem dX11_readSit_3 : decode cX11_readSit 3 = .ok (.invokevirtual 151, 3) := by decide +kernel
theorem dX11_readSit_6 : decode cX11_readSit 6 = .ok (.istore_n 1, 1) := by decide +kernel
theorem dX11_readSit_7 : decode cX11_readSit 7 = .ok (.aload_n 0, 1) := by decide +kernel
theorem dX11_readSit_8 : decode cX11_readSit 8 = .ok (.iconst 0, 1) := by decide +kernel
theorem dX11_readSit_9 : decode cX11_readSit 9 = .ok (.iconst 3, 1) := by decide +kernel
theorem dX11_readSit_10 : decode cX11_readSit 10 = .ok (.invokevirtual 139, 3) := by decide +kernel
theorem dX11_readSit_13 : decode cX11_readSit 13 = .ok (.istore_n 2, 1) := by decide +kernel
theorem dX11_readSit_14 : decode cX11_readSit 14 = .ok (.aload_n 0, 1) := by decide +kernel
theorem dX11_readSit_15 : decode cX11_readSit 15 = .ok (.aload_n 0, 1) := by decide +kernel
theorem dX11_readSit_16 : decode cX11_readSit 16 = .ok (.getfield 127, 3) := by decide +kernel
theorem dX11_readSit_19 : decode cX11_readSit 19 = .ok (.ifCond .eq 30, 3) := by decide +kernel
theorem dX11_readSit_22 : decode cX11_readSit 22 = .ok (.aload_n 0, 1) := by decide +kernel
theorem dX11_readSit_23 : decode cX11_readSit 23 = .ok (.getfield 16, 3) := by decide +kernel
theorem dX11_readSit_26 : decode cX11_readSit 26 = .ok (.iload_n 1, 1) := by decide +kernel
theorem dX11_readSit_27 : decode cX11_readSit 27 = .ok (.invokestatic 164, 3) := by decide +kernel
theorem dX11_readSit_30 : decode cX11_readSit 30 = .ok (.ifCond .eq 19, 3) := by decide +kernel
theorem dX11_readSit_33 : decode cX11_readSit 33 = .ok (.aload_n 0, 1) := by decide +kernel
theorem dX11_readSit_34 : decode cX11_readSit 34 = .ok (.getfield 16, 3) := by decide +kernel
theorem dX11_readSit_37 : decode cX11_readSit 37 = .ok (.iload_n 1, 1) := by decide +kernel
theorem dX11_readSit_38 : decode cX11_readSit 38 = .ok (.iload_n 2, 1) := by decide +kernel
theorem dX11_readSit_39 : decode cX11_readSit 39 = .ok (.invokestatic 176, 3) := by decide +kernel
theorem dX11_readSit_42 : decode cX11_readSit 42 = .ok (.ifCond .eq 7, 3) := by decide +kernel
theorem dX11_readSit_45 : decode cX11_readSit 45 = .ok (.iconst 1, 1) := by decide +kernel
theorem dX11_readSit_46 : decode cX11_readSit 46 = .ok (.goto 4, 3) := by decide +kernel
theorem dX11_readSit_49 : decode cX11_readSit 49 = .ok (.iconst 0, 1) := by decide +kernel
theorem dX11_readSit_50 : decode cX11_readSit 50 = .ok (.invokevirtual 154, 3) := by decide +kernel
theorem dX11_readSit_53 : decode cX11_readSit 53 = .ok (.ifCond .eq 19, 3) := by decide +kernel
theorem dX11_readSit_56 : decode cX11_readSit 56 = .ok (.aload_n 0, 1) := by decide +kernel
theorem dX11_readSit_57 : decode cX11_readSit 57 = .ok (.getfield 16, 3) := by decide +kernel
theorem dX11_readSit_60 : decode cX11_readSit 60 = .ok (.iconst 5, 1) := by decide +kernel
theorem dX11_readSit_61 : decode cX11_readSit 61 = .ok (.iload_n 1, 1) := by decide +kernel
theorem dX11_readSit_62 : decode cX11_readSit 62 = .ok (.imul, 1) := by decide +kernel
theorem dX11_readSit_63 : decode cX11_readSit 63 = .ok (.iconst 2, 1) := by decide +kernel
theorem dX11_readSit_64 : decode cX11_readSit 64 = .ok (.iadd, 1) := by decide +kernel
theorem dX11_readSit_65 : decode cX11_readSit 65 = .ok (.iload_n 2, 1) := by decide +kernel
theorem dX11_readSit_66 : decode cX11_readSit 66 = .ok (.invokestatic 179, 3) := by decide +kernel
theorem dX11_readSit_69 : decode cX11_readSit 69 = .ok (.goto 4, 3) := by decide +kernel
theorem dX11_readSit_72 : decode cX11_readSit 72 = .ok (.iconst 0, 1) := by decide +kernel
theorem dX11_readSit_73 : decode cX11_readSit 73 = .ok (.ireturn, 1) := by decide +kernel
theorem dX11_readSet_0 : decode cX11_readSet 0 = .ok (.aload_n 0, 1) := by decide +kernel
theorem dX11_readSet_1 : decode cX11_readSet 1 = .ok (.iconst 0, 1) := by decide +kernel
theorem dX11_readSet_2 : decode cX11_readSet 2 = .ok (.iconst 2, 1) := by decide +kernel
theorem dX11_readSet_3 : decode cX11_readSet 3 = .ok (.invokevirtual 139, 3) := by decide +kernel
theorem dX11_readSet_6 : decode cX11_readSet 6 = .ok (.istore_n 1, 1) := by decide +kernel
theorem dX11_readSet_7 : decode cX11_readSet 7 = .ok (.aload_n 0, 1) := by decide +kernel
theorem dX11_readSet_8 : decode cX11_readSet 8 = .ok (.iconst 0, 1) := by decide +kernel
theorem dX11_readSet_9 : decode cX11_readSet 9 = .ok (.bipush 9, 2) := by decide +kernel
theorem dX11_readSet_11 : decode cX11_readSet 11 = .ok (.invokevirtual 139, 3) := by decide +kernel
theorem dX11_readSet_14 : decode cX11_readSet 14 = .ok (.istore_n 2, 1) := by decide +kernel
theorem dX11_readSet_15 : decode cX11_readSet 15 = .ok (.aload_n 0, 1) := by decide +kernel
theorem dX11_readSet_16 : decode cX11_readSet 16 = .ok (.iload_n 1, 1) := by decide +kernel
theorem dX11_readSet_17 : decode cX11_readSet 17 = .ok (.iload_n 2, 1) := by decide +kernel
theorem dX11_readSet_18 : decode cX11_readSet 18 = .ok (.invokestatic 183, 3) := by decide +kernel
theorem dX11_readSet_21 : decode cX11_readSet 21 = .ok (.invokevirtual 154, 3) := by decide +kernel
theorem dX11_readSet_24 : decode cX11_readSet 24 = .ok (.ifCond .eq 19, 3) := by decide +kernel
theorem dX11_readSet_27 : decode cX11_readSet 27 = .ok (.aload_n 0, 1) := by decide +kernel
theorem dX11_readSet_28 : decode cX11_readSet 28 = .ok (.getfield 16, 3) := by decide +kernel
theorem dX11_readSet_31 : decode cX11_readSet 31 = .ok (.sipush 386, 3) := by decide +kernel
theorem dX11_readSet_34 : decode cX11_readSet 34 = .ok (.iload_n 1, 1) := by decide +kernel
theorem dX11_readSet_35 : decode cX11_readSet 35 = .ok (.iadd, 1) := by decide +kernel
theorem dX11_readSet_36 : decode cX11_readSet 36 = .ok (.iload_n 2, 1) := by decide +kernel
theorem dX11_readSet_37 : decode cX11_readSet 37 = .ok (.invokestatic 179, 3) := by decide +kernel
theorem dX11_readSet_40 : decode cX11_readSet 40 = .ok (.goto 4, 3) := by decide +kernel
theorem dX11_readSet_43 : decode cX11_readSet 43 = .ok (.iconst 0, 1) := by decide +kernel
theorem dX11_readSet_44 : decode cX11_readSet 44 = .ok (.ireturn, 1) := by decide +kernel
theorem dX11_readYears_0 : decode cX11_readYears 0 = .ok (.aload_n 0, 1) := by decide +kernel
theorem dX11_readYears_1 : decode cX11_readYears 1 = .ok (.iconst 1, 1) := by decide +kernel
theorem dX11_readYears_2 : decode cX11_readYears 2 = .ok (.bipush 9, 2) := by decide +kernel
theorem dX11_readYears_4 : decode cX11_readYears 4 = .ok (.invokevirtual 139, 3) := by decide +kernel
theorem dX11_readYears_7 : decode cX11_readYears 7 = .ok (.istore_n 1, 1) := by decide +kernel
theorem dX11_readYears_8 : decode cX11_readYears 8 = .ok (.aload_n 0, 1) := by decide +kernel
theorem dX11_readYears_9 : decode cX11_readYears 9 = .ok (.aload_n 0, 1) := by decide +kernel
theorem dX11_readYears_10 : decode cX11_readYears 10 = .ok (.getfield 16, 3) := by decide +kernel
theorem dX11_readYears_13 : decode cX11_readYears 13 = .ok (.iload_n 1, 1) := by decide +kernel
theorem dX11_readYears_14 : decode cX11_readYears 14 = .ok (.invokestatic 187, 3) := by decide +kernel
theorem dX11_readYears_17 : decode cX11_readYears 17 = .ok (.invokevirtual 154, 3) := by decide +kernel
theorem dX11_readYears_20 : decode cX11_readYears 20 = .ok (.ifCond .eq 14, 3) := by decide +kernel
theorem dX11_readYears_23 : decode cX11_readYears 23 = .ok (.aload_n 0, 1) := by decide +kernel
theorem dX11_readYears_24 : decode cX11_readYears 24 = .ok (.getfield 16, 3) := by decide +kernel
theorem dX11_readYears_27 : decode cX11_readYears 27 = .ok (.iload_n 1, 1) := by decide +kernel
theorem dX11_readYears_28 : decode cX11_readYears 28 = .ok (.invokestatic 190, 3) := by decide +kernel
theorem dX11_readYears_31 : decode cX11_readYears 31 = .ok (.goto 4, 3) := by decide +kernel
theorem dX11_readYears_34 : decode cX11_readYears 34 = .ok (.iconst 0, 1) := by decide +kernel
theorem dX11_readYears_35 : decode cX11_readYears 35 = .ok (.ireturn, 1) := by decide +kernel
theorem dX11_readCommand_0 : decode cX11_readCommand 0 = .ok (.aload_n 0, 1) := by decide +kernel
theorem dX11_readCommand_1 : decode cX11_readCommand 1 = .ok (.invokevirtual 131, 3) := by decide +kernel
theorem dX11_readCommand_4 : decode cX11_readCommand 4 = .ok (.istore_n 1, 1) := by decide +kernel
theorem dX11_readCommand_5 : decode cX11_readCommand 5 = .ok (.aload_n 0, 1) := by decide +kernel
theorem dX11_readCommand_6 : decode cX11_readCommand 6 = .ok (.iload_n 1, 1) := by decide +kernel
theorem dX11_readCommand_7 : decode cX11_readCommand 7 = .ok (.bipush 112, 2) := by decide +kernel
theorem dX11_readCommand_9 : decode cX11_readCommand 9 = .ok (.if_icmp .eq 33, 3) := by decide +kernel
theorem dX11_readCommand_12 : decode cX11_readCommand 12 = .ok (.iload_n 1, 1) := by decide +kernel
theorem dX11_readCommand_13 : decode cX11_readCommand 13 = .ok (.bipush 103, 2) := by decide +kernel
theorem dX11_readCommand_15 : decode cX11_readCommand 15 = .ok (.if_icmp .eq 27, 3) := by decide +kernel
theorem dX11_readCommand_18 : decode cX11_readCommand 18 = .ok (.iload_n 1, 1) := by decide +kernel
theorem dX11_readCommand_19 : decode cX11_readCommand 19 = .ok (.bipush 99, 2) := by decide +kernel
theorem dX11_readCommand_21 : decode cX11_readCommand 21 = .ok (.if_icmp .eq 21, 3) := by decide +kernel
theorem dX11_readCommand_24 : decode cX11_readCommand 24 = .ok (.iload_n 1, 1) := by decide +kernel
theorem dX11_readCommand_25 : decode cX11_readCommand 25 = .ok (.bipush 121, 2) := by decide +kernel
theorem dX11_readCommand_27 : decode cX11_readCommand 27 = .ok (.if_icmp .eq 15, 3) := by decide +kernel
theorem dX11_readCommand_30 : decode cX11_readCommand 30 = .ok (.iload_n 1, 1) := by decide +kernel
theorem dX11_readCommand_31 : decode cX11_readCommand 31 = .ok (.bipush 98, 2) := by decide +kernel
theorem dX11_readCommand_33 : decode cX11_readCommand 33 = .ok (.if_icmp .eq 9, 3) := by decide +kernel
theorem dX11_readCommand_36 : decode cX11_readCommand 36 = .ok (.iload_n 1, 1) := by decide +kernel
theorem dX11_readCommand_37 : decode cX11_readCommand 37 = .ok (.bipush 115, 2) := by decide +kernel
theorem dX11_readCommand_39 : decode cX11_readCommand 39 = .ok (.if_icmp .ne 7, 3) := by decide +kernel
theorem dX11_readCommand_42 : decode cX11_readCommand 42 = .ok (.iconst 1, 1) := by decide +kernel
theorem dX11_readCommand_43 : decode cX11_readCommand 43 = .ok (.goto 4, 3) := by decide +kernel
theorem dX11_readCommand_46 : decode cX11_readCommand 46 = .ok (.iconst 0, 1) := by decide +kernel
theorem dX11_readCommand_47 : decode cX11_readCommand 47 = .ok (.invokevirtual 135, 3) := by decide +kernel
theorem dX11_readCommand_50 : decode cX11_readCommand 50 = .ok (.aload_n 0, 1) := by decide +kernel
theorem dX11_readCommand_51 : decode cX11_readCommand 51 = .ok (.getfield 127, 3) := by decide +kernel
theorem dX11_readCommand_54 : decode cX11_readCommand 54 = .ok (.ifCond .ne 5, 3) := by decide +kernel
theorem dX11_readCommand_57 : decode cX11_readCommand 57 = .ok (.iconst 0, 1) := by decide +kernel
theorem dX11_readCommand_58 : decode cX11_readCommand 58 = .ok (.ireturn, 1) := by decide +kernel
theorem dX11_readCommand_59 : decode cX11_readCommand 59 = .ok (.iload_n 1, 1) := by decide +kernel
theorem dX11_readCommand_60 : decode cX11_readCommand 60 = .ok (.lookupswitch 77 #[(98, 72), (99, 62), (103, 57), (112, 52), (121, 67)], 52) := by decide +kernel
theorem dX11_readCommand_112 : decode cX11_readCommand 112 = .ok (.aload_n 0, 1) := by decide +kernel
theorem dX11_readCommand_113 : decode cX11_readCommand 113 = .ok (.invokevirtual 193, 3) := by decide +kernel
theorem dX11_readCommand_116 : decode cX11_readCommand 116 = .ok (.ireturn, 1) := by decide +kernel
theorem dX11_readCommand_117 : decode cX11_readCommand 117 = .ok (.aload_n 0, 1) := by decide +kernel
theorem dX11_readCommand_118 : decode cX11_readCommand 118 = .ok (.invokevirtual 196, 3) := by decide +kernel
theorem dX11_readCommand_121 : decode cX11_readCommand 121 = .ok (.ireturn, 1) := by decide +kernel
theorem dX11_readCommand_122 : decode cX11_readCommand 122 = .ok (.aload_n 0, 1) := by decide +kernel
theorem dX11_readCommand_123 : decode cX11_readCommand 123 = .ok (.invokevirtual 199, 3) := by decide +kernel
theorem dX11_readCommand_126 : decode cX11_readCommand 126 = .ok (.ireturn, 1) := by decide +kernel
theorem dX11_readCommand_127 : decode cX11_readCommand 127 = .ok (.aload_n 0, 1) := by decide +kernel
theorem dX11_readCommand_128 : decode cX11_readCommand 128 = .ok (.invokevirtual 202, 3) := by decide +kernel
theorem dX11_readCommand_131 : decode cX11_readCommand 131 = .ok (.ireturn, 1) := by decide +kernel
theorem dX11_readCommand_132 : decode cX11_readCommand 132 = .ok (.aload_n 0, 1) := by decide +kernel
theorem dX11_readCommand_133 : decode cX11_readCommand 133 = .ok (.invokevirtual 205, 3) := by decide +kernel
theorem dX11_readCommand_136 : decode cX11_readCommand 136 = .ok (.ireturn, 1) := by decide +kernel
theorem dX11_readCommand_137 : decode cX11_readCommand 137 = .ok (.aload_n 0, 1) := by decide +kernel
theorem dX11_readCommand_138 : decode cX11_readCommand 138 = .ok (.invokevirtual 208, 3) := by decide +kernel
theorem dX11_readCommand_141 : decode cX11_readCommand 141 = .ok (.ireturn, 1) := by decide +kernel
theorem dX11_readAll_0 : decode cX11_readAll 0 = .ok (.aload_n 0, 1) := by decide +kernel
theorem dX11_readAll_1 : decode cX11_readAll 1 = .ok (.iconst 0, 1) := by decide +kernel
theorem dX11_readAll_2 : decode cX11_readAll 2 = .ok (.putfield 124, 3) := by decide +kernel
theorem dX11_readAll_5 : decode cX11_readAll 5 = .ok (.aload_n 0, 1) := by decide +kernel
theorem dX11_readAll_6 : decode cX11_readAll 6 = .ok (.iconst 1, 1) := by decide +kernel
theorem dX11_readAll_7 : decode cX11_readAll 7 = .ok (.putfield 127, 3) := by decide +kernel
theorem dX11_readAll_10 : decode cX11_readAll 10 = .ok (.aload_n 0, 1) := by decide +kernel
theorem dX11_readAll_11 : decode cX11_readAll 11 = .ok (.iconst 0, 1) := by decide +kernel
theorem dX11_readAll_12 : decode cX11_readAll 12 = .ok (.putfield 143, 3) := by decide +kernel
theorem dX11_readAll_15 : decode cX11_readAll 15 = .ok (.aload_n 0, 1) := by decide +kernel
theorem dX11_readAll_16 : decode cX11_readAll 16 = .ok (.getfield 16, 3) := by decide +kernel
theorem dX11_readAll_19 : decode cX11_readAll 19 = .ok (.invokestatic 35, 3) := by decide +kernel
theorem dX11_readAll_22 : decode cX11_readAll 22 = .ok (.aload_n 0, 1) := by decide +kernel
theorem dX11_readAll_23 : decode cX11_readAll 23 = .ok (.aload_n 0, 1) := by decide +kernel
theorem dX11_readAll_24 : decode cX11_readAll 24 = .ok (.invokevirtual 131, 3) := by decide +kernel
theorem dX11_readAll_27 : decode cX11_readAll 27 = .ok (.bipush 82, 2) := by decide +kernel
theorem dX11_readAll_29 : decode cX11_readAll 29 = .ok (.if_icmp .ne 7, 3) := by decide +kernel
theorem dX11_readAll_32 : decode cX11_readAll 32 = .ok (.iconst 1, 1) := by decide +kernel
theorem dX11_readAll_33 : decode cX11_readAll 33 = .ok (.goto 4, 3) := by decide +kernel
theorem dX11_readAll_36 : decode cX11_readAll 36 = .ok (.iconst 0, 1) := by decide +kernel
theorem dX11_readAll_37 : decode cX11_readAll 37 = .ok (.invokevirtual 135, 3) := by decide +kernel
theorem dX11_readAll_40 : decode cX11_readAll 40 = .ok (.aload_n 0, 1) := by decide +kernel
theorem dX11_readAll_41 : decode cX11_readAll 41 = .ok (.getfield 127, 3) := by decide +kernel
theorem dX11_readAll_44 : decode cX11_readAll 44 = .ok (.ifCond .eq 22, 3) := by decide +kernel
theorem dX11_readAll_47 : decode cX11_readAll 47 = .ok (.aload_n 0, 1) := by decide +kernel
theorem dX11_readAll_48 : decode cX11_readAll 48 = .ok (.getfield 124, 3) := by decide +kernel
theorem dX11_readAll_51 : decode cX11_readAll 51 = .ok (.aload_n 0, 1) := by decide +kernel
theorem dX11_readAll_52 : decode cX11_readAll 52 = .ok (.getfield 117, 3) := by decide +kernel
theorem dX11_readAll_55 : decode cX11_readAll 55 = .ok (.if_icmp .ge 11, 3) := by decide +kernel
theorem dX11_readAll_58 : decode cX11_readAll 58 = .ok (.aload_n 0, 1) := by decide +kernel
theorem dX11_readAll_59 : decode cX11_readAll 59 = .ok (.invokevirtual 211, 3) := by decide +kernel
theorem dX11_readAll_62 : decode cX11_readAll 62 = .ok (.istore_n 1, 1) := by decide +kernel
theorem dX11_readAll_63 : decode cX11_readAll 63 = .ok (.goto (-23), 3) := by decide +kernel
theorem dX11_readAll_66 : decode cX11_readAll 66 = .ok (.aload_n 0, 1) := by decide +kernel
theorem dX11_readAll_67 : decode cX11_readAll 67 = .ok (.getfield 127, 3) := by decide +kernel
theorem dX11_readAll_70 : decode cX11_readAll 70 = .ok (.ifCond .eq 7, 3) := by decide +kernel
theorem dX11_readAll_73 : decode cX11_readAll 73 = .ok (.iconst (-1), 1) := by decide +kernel
theorem dX11_readAll_74 : decode cX11_readAll 74 = .ok (.goto 7, 3) := by decide +kernel
theorem dX11_readAll_77 : decode cX11_readAll 77 = .ok (.aload_n 0, 1) := by decide +kernel
theorem dX11_readAll_78 : decode cX11_readAll 78 = .ok (.getfield 124, 3) := by decide +kernel
theorem dX11_readAll_81 : decode cX11_readAll 81 = .ok (.ireturn, 1) := by decide +kernel
theorem dX11_errorPosition_0 : decode cX11_errorPosition 0 = .ok (.aload_n 0, 1) := by decide +kernel
theorem dX11_errorPosition_1 : decode cX11_errorPosition 1 = .ok (.iconst 0, 1) := by decide +kernel
theorem dX11_errorPosition_2 : decode cX11_errorPosition 2 = .ok (.putfield 39, 3) := by decide +kernel
theorem dX11_errorPosition_5 : decode cX11_errorPosition 5 = .ok (.aload_n 0, 1) := by decide +kernel
theorem dX11_errorPosition_6 : decode cX11_errorPosition 6 = .ok (.invokevirtual 214, 3) := by decide +kernel
theorem dX11_errorPosition_9 : decode cX11_errorPosition 9 = .ok (.ireturn, 1) := by decide +kernel
theorem dX11_load_0 : decode cX11_load 0 = .ok (.aload_n 0, 1) := by decide +kernel
theorem dX11_load_1 : decode cX11_load 1 = .ok (.aload_n 0, 1) := by decide +kernel
theorem dX11_load_2 : decode cX11_load 2 = .ok (.invokevirtual 214, 3) := by decide +kernel
theorem dX11_load_5 : decode cX11_load 5 = .ok (.iconst (-1), 1) := by decide +kernel
theorem dX11_load_6 : decode cX11_load 6 = .ok (.if_icmp .ne 7, 3) := by decide +kernel
theorem dX11_load_9 : decode cX11_load 9 = .ok (.iconst 0, 1) := by decide +kernel
theorem dX11_load_10 : decode cX11_load 10 = .ok (.goto 4, 3) := by decide +kernel
theorem dX11_load_13 : decode cX11_load 13 = .ok (.iconst 1, 1) := by decide +kernel
theorem dX11_load_14 : decode cX11_load 14 = .ok (.invokevirtual 120, 3) := by decide +kernel
theorem dX11_load_17 : decode cX11_load 17 = .ok (.ifCond .eq 5, 3) := by decide +kernel
theorem dX11_load_20 : decode cX11_load 20 = .ok (.iconst 0, 1) := by decide +kernel
theorem dX11_load_21 : decode cX11_load 21 = .ok (.ireturn, 1) := by decide +kernel
theorem dX11_load_22 : decode cX11_load 22 = .ok (.aload_n 0, 1) := by decide +kernel
theorem dX11_load_23 : decode cX11_load 23 = .ok (.getfield 16, 3) := by decide +kernel
theorem dX11_load_26 : decode cX11_load 26 = .ok (.aload_n 0, 1) := by decide +kernel
theorem dX11_load_27 : decode cX11_load 27 = .ok (.getfield 7, 3) := by decide +kernel
theorem dX11_load_30 : decode cX11_load 30 = .ok (.invokestatic 217, 3) := by decide +kernel
theorem dX11_load_33 : decode cX11_load 33 = .ok (.aload_n 0, 1) := by decide +kernel
theorem dX11_load_34 : decode cX11_load 34 = .ok (.iconst 0, 1) := by decide +kernel
theorem dX11_load_35 : decode cX11_load 35 = .ok (.putfield 112, 3) := by decide +kernel
theorem dX11_load_38 : decode cX11_load 38 = .ok (.aload_n 0, 1) := by decide +kernel
theorem dX11_load_39 : decode cX11_load 39 = .ok (.getfield 25, 3) := by decide +kernel
theorem dX11_load_42 : decode cX11_load 42 = .ok (.iconst 0, 1) := by decide +kernel
theorem dX11_load_43 : decode cX11_load 43 = .ok (.iconst 0, 1) := by decide +kernel
theorem dX11_load_44 : decode cX11_load 44 = .ok (.bastore, 1) := by decide +kernel
theorem dX11_load_45 : decode cX11_load 45 = .ok (.aload_n 0, 1) := by decide +kernel
theorem dX11_load_46 : decode cX11_load 46 = .ok (.getfield 25, 3) := by decide +kernel
theorem dX11_load_49 : decode cX11_load 49 = .ok (.iconst 1, 1) := by decide +kernel
theorem dX11_load_50 : decode cX11_load 50 = .ok (.iconst 0, 1) := by decide +kernel
theorem dX11_load_51 : decode cX11_load 51 = .ok (.bastore, 1) := by decide +kernel
theorem dX11_load_52 : decode cX11_load 52 = .ok (.aload_n 0, 1) := by decide +kernel
theorem dX11_load_53 : decode cX11_load 53 = .ok (.getfield 143, 3) := by decide +kernel
theorem dX11_load_56 : decode cX11_load 56 = .ok (.ireturn, 1) := by decide +kernel
theorem dX11_inState_0 : decode cX11_inState 0 = .ok (.iconst 0, 1) := by decide +kernel
theorem dX11_inState_1 : decode cX11_inState 1 = .ok (.istore_n 2, 1) := by decide +kernel
theorem dX11_inState_2 : decode cX11_inState 2 = .ok (.iconst 0, 1) := by decide +kernel
theorem dX11_inState_3 : decode cX11_inState 3 = .ok (.istore_n 3, 1) := by decide +kernel
theorem dX11_inState_4 : decode cX11_inState 4 = .ok (.iload_n 3, 1) := by decide +kernel
theorem dX11_inState_5 : decode cX11_inState 5 = .ok (.aload_n 0, 1) := by decide +kernel
theorem dX11_inState_6 : decode cX11_inState 6 = .ok (.sipush 381, 3) := by decide +kernel
theorem dX11_inState_9 : decode cX11_inState 9 = .ok (.iaload, 1) := by decide +kernel
theorem dX11_inState_10 : decode cX11_inState 10 = .ok (.if_icmp .ge 30, 3) := by decide +kernel
theorem dX11_inState_13 : decode cX11_inState 13 = .ok (.iload_n 2, 1) := by decide +kernel
theorem dX11_inState_14 : decode cX11_inState 14 = .ok (.aload_n 0, 1) := by decide +kernel
theorem dX11_inState_15 : decode cX11_inState 15 = .ok (.iload_n 3, 1) := by decide +kernel
theorem dX11_inState_16 : decode cX11_inState 16 = .ok (.invokestatic 61, 3) := by decide +kernel
theorem dX11_inState_19 : decode cX11_inState 19 = .ok (.bipush 6, 2) := by decide +kernel
theorem dX11_inState_21 : decode cX11_inState 21 = .ok (.iadd, 1) := by decide +kernel
theorem dX11_inState_22 : decode cX11_inState 22 = .ok (.iaload, 1) := by decide +kernel
theorem dX11_inState_23 : decode cX11_inState 23 = .ok (.iload_n 1, 1) := by decide +kernel
theorem dX11_inState_24 : decode cX11_inState 24 = .ok (.if_icmp .ne 7, 3) := by decide +kernel
theorem dX11_inState_27 : decode cX11_inState 27 = .ok (.iconst 1, 1) := by decide +kernel
theorem dX11_inState_28 : decode cX11_inState 28 = .ok (.goto 4, 3) := by decide +kernel
theorem dX11_inState_31 : decode cX11_inState 31 = .ok (.iconst 0, 1) := by decide +kernel
theorem dX11_inState_32 : decode cX11_inState 32 = .ok (.iadd, 1) := by decide +kernel
theorem dX11_inState_33 : decode cX11_inState 33 = .ok (.istore_n 2, 1) := by decide +kernel
theorem dX11_inState_34 : decode cX11_inState 34 = .ok (.iinc 3 1, 3) := by decide +kernel
theorem dX11_inState_37 : decode cX11_inState 37 = .ok (.goto (-33), 3) := by decide +kernel
theorem dX11_inState_40 : decode cX11_inState 40 = .ok (.iload_n 2, 1) := by decide +kernel
theorem dX11_inState_41 : decode cX11_inState 41 = .ok (.ireturn, 1) := by decide +kernel
theorem dX11_uses_0 : decode cX11_uses 0 = .ok (.iconst 0, 1) := by decide +kernel
theorem dX11_uses_1 : decode cX11_uses 1 = .ok (.istore_n 1, 1) := by decide +kernel
theorem dX11_uses_2 : decode cX11_uses 2 = .ok (.iconst 0, 1) := by decide +kernel
theorem dX11_uses_3 : decode cX11_uses 3 = .ok (.istore_n 2, 1) := by decide +kernel
theorem dX11_uses_4 : decode cX11_uses 4 = .ok (.iload_n 2, 1) := by decide +kernel
theorem dX11_uses_5 : decode cX11_uses 5 = .ok (.aload_n 0, 1) := by decide +kernel
theorem dX11_uses_6 : decode cX11_uses 6 = .ok (.getfield 7, 3) := by decide +kernel
theorem dX11_uses_9 : decode cX11_uses 9 = .ok (.sipush 381, 3) := by decide +kernel
theorem dX11_uses_12 : decode cX11_uses 12 = .ok (.iaload, 1) := by decide +kernel
theorem dX11_uses_13 : decode cX11_uses 13 = .ok (.if_icmp .ge 23, 3) := by decide +kernel
theorem dX11_uses_16 : decode cX11_uses 16 = .ok (.iload_n 1, 1) := by decide +kernel
theorem dX11_uses_17 : decode cX11_uses 17 = .ok (.aload_n 0, 1) := by decide +kernel
theorem dX11_uses_18 : decode cX11_uses 18 = .ok (.getfield 7, 3) := by decide +kernel
theorem dX11_uses_21 : decode cX11_uses 21 = .ok (.iload_n 2, 1) := by decide +kernel
theorem dX11_uses_22 : decode cX11_uses 22 = .ok (.invokestatic 61, 3) := by decide +kernel
theorem dX11_uses_25 : decode cX11_uses 25 = .ok (.iconst 4, 1) := by decide +kernel
theorem dX11_uses_26 : decode cX11_uses 26 = .ok (.iadd, 1) := by decide +kernel
theorem dX11_uses_27 : decode cX11_uses 27 = .ok (.iaload, 1) := by decide +kernel
theorem dX11_uses_28 : decode cX11_uses 28 = .ok (.iadd, 1) := by decide +kernel
theorem dX11_uses_29 : decode cX11_uses 29 = .ok (.istore_n 1, 1) := by decide +kernel
theorem dX11_uses_30 : decode cX11_uses 30 = .ok (.iinc 2 1, 3) := by decide +kernel
theorem dX11_uses_33 : decode cX11_uses 33 = .ok (.goto (-29), 3) := by decide +kernel
theorem dX11_uses_36 : decode cX11_uses 36 = .ok (.iload_n 1, 1) := by decide +kernel
theorem dX11_uses_37 : decode cX11_uses 37 = .ok (.ireturn, 1) := by decide +kernel
theorem dX11_about_0 : decode cX11_about 0 = .ok (.aload_n 0, 1) := by decide +kernel
theorem dX11_about_1 : decode cX11_about 1 = .ok (.iload_n 1, 1) := by decide +kernel
theorem dX11_about_2 : decode cX11_about 2 = .ok (.i2l, 1) := by decide +kernel
theorem dX11_about_3 : decode cX11_about 3 = .ok (.lconst 0, 1) := by decide +kernel
theorem dX11_about_4 : decode cX11_about 4 = .ok (.ldc2_w 221, 3) := by decide +kernel
theorem dX11_about_7 : decode cX11_about 7 = .ok (.invokestatic 45, 3) := by decide +kernel
theorem dX11_about_10 : decode cX11_about 10 = .ok (.ifCond .eq 7, 3) := by decide +kernel
theorem dX11_about_13 : decode cX11_about 13 = .ok (.iconst 0, 1) := by decide +kernel
theorem dX11_about_14 : decode cX11_about 14 = .ok (.goto 4, 3) := by decide +kernel
theorem dX11_about_17 : decode cX11_about 17 = .ok (.iconst 1, 1) := by decide +kernel
theorem dX11_about_18 : decode cX11_about 18 = .ok (.invokevirtual 120, 3) := by decide +kernel
theorem dX11_about_21 : decode cX11_about 21 = .ok (.ifCond .eq 5, 3) := by decide +kernel
theorem dX11_about_24 : decode cX11_about 24 = .ok (.iconst 0, 1) := by decide +kernel
theorem dX11_about_25 : decode cX11_about 25 = .ok (.ireturn, 1) := by decide +kernel
theorem dX11_about_26 : decode cX11_about 26 = .ok (.iload_n 1, 1) := by decide +kernel
theorem dX11_about_27 : decode cX11_about 27 = .ok (.tableswitch 120 0 11 #[61, 70, 120, 120, 120, 120, 120, 79, 88, 93, 102, 111], 61) := by decide +kernel
theorem dX11_about_88 : decode cX11_about 88 = .ok (.aload_n 0, 1) := by decide +kernel
theorem dX11_about_89 : decode cX11_about 89 = .ok (.getfield 7, 3) := by decide +kernel
theorem dX11_about_92 : decode cX11_about 92 = .ok (.sipush 380, 3) := by decide +kernel
theorem dX11_about_95 : decode cX11_about 95 = .ok (.iaload, 1) := by decide +kernel
theorem dX11_about_96 : decode cX11_about 96 = .ok (.ireturn, 1) := by decide +kernel
theorem dX11_about_97 : decode cX11_about 97 = .ok (.aload_n 0, 1) := by decide +kernel
theorem dX11_about_98 : decode cX11_about 98 = .ok (.getfield 7, 3) := by decide +kernel
theorem dX11_about_101 : decode cX11_about 101 = .ok (.sipush 381, 3) := by decide +kernel
theorem dX11_about_104 : decode cX11_about 104 = .ok (.iaload, 1) := by decide +kernel
theorem dX11_about_105 : decode cX11_about 105 = .ok (.ireturn, 1) := by decide +kernel
theorem dX11_about_106 : decode cX11_about 106 = .ok (.aload_n 0, 1) := by decide +kernel
theorem dX11_about_107 : decode cX11_about 107 = .ok (.getfield 7, 3) := by decide +kernel
theorem dX11_about_110 : decode cX11_about 110 = .ok (.sipush 382, 3) := by decide +kernel
theorem dX11_about_113 : decode cX11_about 113 = .ok (.iaload, 1) := by decide +kernel
theorem dX11_about_114 : decode cX11_about 114 = .ok (.ireturn, 1) := by decide +kernel
theorem dX11_about_115 : decode cX11_about 115 = .ok (.aload_n 0, 1) := by decide +kernel
theorem dX11_about_116 : decode cX11_about 116 = .ok (.invokevirtual 223, 3) := by decide +kernel
theorem dX11_about_119 : decode cX11_about 119 = .ok (.ireturn, 1) := by decide +kernel
theorem dX11_about_120 : decode cX11_about 120 = .ok (.aload_n 0, 1) := by decide +kernel
theorem dX11_about_121 : decode cX11_about 121 = .ok (.getfield 7, 3) := by decide +kernel
theorem dX11_about_124 : decode cX11_about 124 = .ok (.sipush 383, 3) := by decide +kernel
theorem dX11_about_127 : decode cX11_about 127 = .ok (.iaload, 1) := by decide +kernel
theorem dX11_about_128 : decode cX11_about 128 = .ok (.ireturn, 1) := by decide +kernel
theorem dX11_about_129 : decode cX11_about 129 = .ok (.aload_n 0, 1) := by decide +kernel
theorem dX11_about_130 : decode cX11_about 130 = .ok (.getfield 7, 3) := by decide +kernel
theorem dX11_about_133 : decode cX11_about 133 = .ok (.sipush 384, 3) := by decide +kernel
theorem dX11_about_136 : decode cX11_about 136 = .ok (.iaload, 1) := by decide +kernel
theorem dX11_about_137 : decode cX11_about 137 = .ok (.ireturn, 1) := by decide +kernel
theorem dX11_about_138 : decode cX11_about 138 = .ok (.aload_n 0, 1) := by decide +kernel
theorem dX11_about_139 : decode cX11_about 139 = .ok (.getfield 7, 3) := by decide +kernel
theorem dX11_about_142 : decode cX11_about 142 = .ok (.sipush 385, 3) := by decide +kernel
theorem dX11_about_145 : decode cX11_about 145 = .ok (.iaload, 1) := by decide +kernel
theorem dX11_about_146 : decode cX11_about 146 = .ok (.ireturn, 1) := by decide +kernel
theorem dX11_about_147 : decode cX11_about 147 = .ok (.iload_n 1, 1) := by decide +kernel
theorem dX11_about_148 : decode cX11_about 148 = .ok (.bipush 11, 2) := by decide +kernel
theorem dX11_about_150 : decode cX11_about 150 = .ok (.if_icmp .le 19, 3) := by decide +kernel
theorem dX11_about_153 : decode cX11_about 153 = .ok (.aload_n 0, 1) := by decide +kernel
theorem dX11_about_154 : decode cX11_about 154 = .ok (.getfield 7, 3) := by decide +kernel
theorem dX11_about_157 : decode cX11_about 157 = .ok (.sipush 386, 3) := by decide +kernel
theorem dX11_about_160 : decode cX11_about 160 = .ok (.iload_n 1, 1) := by decide +kernel
theorem dX11_about_161 : decode cX11_about 161 = .ok (.iadd, 1) := by decide +kernel
theorem dX11_about_162 : decode cX11_about 162 = .ok (.bipush 12, 2) := by decide +kernel
theorem dX11_about_164 : decode cX11_about 164 = .ok (.isub, 1) := by decide +kernel
theorem dX11_about_165 : decode cX11_about 165 = .ok (.iaload, 1) := by decide +kernel
theorem dX11_about_166 : decode cX11_about 166 = .ok (.goto 13, 3) := by decide +kernel
theorem dX11_about_169 : decode cX11_about 169 = .ok (.aload_n 0, 1) := by decide +kernel
theorem dX11_about_170 : decode cX11_about 170 = .ok (.getfield 7, 3) := by decide +kernel
theorem dX11_about_173 : decode cX11_about 173 = .ok (.iload_n 1, 1) := by decide +kernel
theorem dX11_about_174 : decode cX11_about 174 = .ok (.iconst 2, 1) := by decide +kernel
theorem dX11_about_175 : decode cX11_about 175 = .ok (.isub, 1) := by decide +kernel
theorem dX11_about_176 : decode cX11_about 176 = .ok (.invokestatic 226, 3) := by decide +kernel
theorem dX11_about_179 : decode cX11_about 179 = .ok (.ireturn, 1) := by decide +kernel
theorem dX11_given_0 : decode cX11_given 0 = .ok (.iconst 0, 1) := by decide +kernel
theorem dX11_given_1 : decode cX11_given 1 = .ok (.istore_n 3, 1) := by decide +kernel
theorem dX11_given_2 : decode cX11_given 2 = .ok (.iconst 0, 1) := by decide +kernel
theorem dX11_given_3 : decode cX11_given 3 = .ok (.istore 4, 2) := by decide +kernel
theorem dX11_given_5 : decode cX11_given 5 = .ok (.iload 4, 2) := by decide +kernel
theorem dX11_given_7 : decode cX11_given 7 = .ok (.aload_n 0, 1) := by decide +kernel
theorem dX11_given_8 : decode cX11_given 8 = .ok (.getfield 7, 3) := by decide +kernel
theorem dX11_given_11 : decode cX11_given 11 = .ok (.sipush 381, 3) := by decide +kernel
theorem dX11_given_14 : decode cX11_given 14 = .ok (.iaload, 1) := by decide +kernel
theorem dX11_given_15 : decode cX11_given 15 = .ok (.if_icmp .ge 54, 3) := by decide +kernel
theorem dX11_given_18 : decode cX11_given 18 = .ok (.iload_n 3, 1) := by decide +kernel
theorem dX11_given_19 : decode cX11_given 19 = .ok (.aload_n 0, 1) := by decide +kernel
theorem dX11_given_20 : decode cX11_given 20 = .ok (.getfield 7, 3) := by decide +kernel
theorem dX11_given_23 : decode cX11_given 23 = .ok (.iload 4, 2) := by decide +kernel
theorem dX11_given_25 : decode cX11_given 25 = .ok (.invokestatic 61, 3) := by decide +kernel
theorem dX11_given_28 : decode cX11_given 28 = .ok (.iconst 2, 1) := by decide +kernel
theorem dX11_given_29 : decode cX11_given 29 = .ok (.iadd, 1) := by decide +kernel
theorem dX11_given_30 : decode cX11_given 30 = .ok (.iaload, 1) := by decide +kernel
theorem dX11_given_31 : decode cX11_given 31 = .ok (.iload_n 1, 1) := by decide +kernel
theorem dX11_given_32 : decode cX11_given 32 = .ok (.if_icmp .ne 28, 3) := by decide +kernel
theorem dX11_given_35 : decode cX11_given 35 = .ok (.iload_n 2, 1) := by decide +kernel
theorem dX11_given_36 : decode cX11_given 36 = .ok (.ifCond .eq 20, 3) := by decide +kernel
theorem dX11_given_39 : decode cX11_given 39 = .ok (.aload_n 0, 1) := by decide +kernel
theorem dX11_given_40 : decode cX11_given 40 = .ok (.getfield 7, 3) := by decide +kernel
theorem dX11_given_43 : decode cX11_given 43 = .ok (.iload 4, 2) := by decide +kernel
theorem dX11_given_45 : decode cX11_given 45 = .ok (.invokestatic 61, 3) := by decide +kernel
theorem dX11_given_48 : decode cX11_given 48 = .ok (.bipush 7, 2) := by decide +kernel
theorem dX11_given_50 : decode cX11_given 50 = .ok (.iadd, 1) := by decide +kernel
theorem dX11_given_51 : decode cX11_given 51 = .ok (.iaload, 1) := by decide +kernel
theorem dX11_given_52 : decode cX11_given 52 = .ok (.iconst 1, 1) := by decide +kernel
theorem dX11_given_53 : decode cX11_given 53 = .ok (.if_icmp .ne 7, 3) := by decide +kernel
theorem dX11_given_56 : decode cX11_given 56 = .ok (.iconst 1, 1) := by decide +kernel
theorem dX11_given_57 : decode cX11_given 57 = .ok (.goto 4, 3) := by decide +kernel
theorem dX11_given_60 : decode cX11_given 60 = .ok (.iconst 0, 1) := by decide +kernel
theorem dX11_given_61 : decode cX11_given 61 = .ok (.iadd, 1) := by decide +kernel
theorem dX11_given_62 : decode cX11_given 62 = .ok (.istore_n 3, 1) := by decide +kernel
theorem dX11_given_63 : decode cX11_given 63 = .ok (.iinc 4 1, 3) := by decide +kernel
theorem dX11_given_66 : decode cX11_given 66 = .ok (.goto (-61), 3) := by decide +kernel
theorem dX11_given_69 : decode cX11_given 69 = .ok (.iload_n 3, 1) := by decide +kernel
theorem dX11_given_70 : decode cX11_given 70 = .ok (.ireturn, 1) := by decide +kernel
theorem dX11_brothers_0 : decode cX11_brothers 0 = .ok (.iconst 0, 1) := by decide +kernel
theorem dX11_brothers_1 : decode cX11_brothers 1 = .ok (.istore_n 2, 1) := by decide +kernel
theorem dX11_brothers_2 : decode cX11_brothers 2 = .ok (.iconst 0, 1) := by decide +kernel
theorem dX11_brothers_3 : decode cX11_brothers 3 = .ok (.istore_n 3, 1) := by decide +kernel
theorem dX11_brothers_4 : decode cX11_brothers 4 = .ok (.iload_n 3, 1) := by decide +kernel
theorem dX11_brothers_5 : decode cX11_brothers 5 = .ok (.aload_n 0, 1) := by decide +kernel
theorem dX11_brothers_6 : decode cX11_brothers 6 = .ok (.getfield 7, 3) := by decide +kernel
theorem dX11_brothers_9 : decode cX11_brothers 9 = .ok (.sipush 380, 3) := by decide +kernel
theorem dX11_brothers_12 : decode cX11_brothers 12 = .ok (.iaload, 1) := by decide +kernel
theorem dX11_brothers_13 : decode cX11_brothers 13 = .ok (.if_icmp .ge 29, 3) := by decide +kernel
theorem dX11_brothers_16 : decode cX11_brothers 16 = .ok (.iload_n 2, 1) := by decide +kernel
theorem dX11_brothers_17 : decode cX11_brothers 17 = .ok (.aload_n 0, 1) := by decide +kernel
theorem dX11_brothers_18 : decode cX11_brothers 18 = .ok (.getfield 7, 3) := by decide +kernel
theorem dX11_brothers_21 : decode cX11_brothers 21 = .ok (.iload_n 1, 1) := by decide +kernel
theorem dX11_brothers_22 : decode cX11_brothers 22 = .ok (.iload_n 3, 1) := by decide +kernel
theorem dX11_brothers_23 : decode cX11_brothers 23 = .ok (.invokestatic 76, 3) := by decide +kernel
theorem dX11_brothers_26 : decode cX11_brothers 26 = .ok (.ifCond .eq 7, 3) := by decide +kernel
theorem dX11_brothers_29 : decode cX11_brothers 29 = .ok (.iconst 1, 1) := by decide +kernel
theorem dX11_brothers_30 : decode cX11_brothers 30 = .ok (.goto 4, 3) := by decide +kernel
theorem dX11_brothers_33 : decode cX11_brothers 33 = .ok (.iconst 0, 1) := by decide +kernel
theorem dX11_brothers_34 : decode cX11_brothers 34 = .ok (.iadd, 1) := by decide +kernel
theorem dX11_brothers_35 : decode cX11_brothers 35 = .ok (.istore_n 2, 1) := by decide +kernel
theorem dX11_brothers_36 : decode cX11_brothers 36 = .ok (.iinc 3 1, 3) := by decide +kernel
theorem dX11_brothers_39 : decode cX11_brothers 39 = .ok (.goto (-35), 3) := by decide +kernel
theorem dX11_brothers_42 : decode cX11_brothers 42 = .ok (.iload_n 2, 1) := by decide +kernel
theorem dX11_brothers_43 : decode cX11_brothers 43 = .ok (.ireturn, 1) := by decide +kernel
theorem dX11_personOf_0 : decode cX11_personOf 0 = .ok (.aload_n 0, 1) := by decide +kernel
theorem dX11_personOf_1 : decode cX11_personOf 1 = .ok (.aload_n 0, 1) := by decide +kernel
theorem dX11_personOf_2 : decode cX11_personOf 2 = .ok (.getfield 7, 3) := by decide +kernel
theorem dX11_personOf_5 : decode cX11_personOf 5 = .ok (.iload_n 1, 1) := by decide +kernel
theorem dX11_personOf_6 : decode cX11_personOf 6 = .ok (.invokestatic 164, 3) := by decide +kernel
theorem dX11_personOf_9 : decode cX11_personOf 9 = .ok (.ifCond .ne 7, 3) := by decide +kernel
theorem dX11_personOf_12 : decode cX11_personOf 12 = .ok (.iconst 1, 1) := by decide +kernel
theorem dX11_personOf_13 : decode cX11_personOf 13 = .ok (.goto 20, 3) := by decide +kernel
theorem dX11_personOf_16 : decode cX11_personOf 16 = .ok (.iload_n 2, 1) := by decide +kernel
theorem dX11_personOf_17 : decode cX11_personOf 17 = .ok (.i2l, 1) := by decide +kernel
theorem dX11_personOf_18 : decode cX11_personOf 18 = .ok (.lconst 0, 1) := by decide +kernel
theorem dX11_personOf_19 : decode cX11_personOf 19 = .ok (.ldc2_w 229, 3) := by decide +kernel
theorem dX11_personOf_22 : decode cX11_personOf 22 = .ok (.invokestatic 45, 3) := by decide +kernel
theorem dX11_personOf_25 : decode cX11_personOf 25 = .ok (.ifCond .ne 7, 3) := by decide +kernel
theorem dX11_personOf_28 : decode cX11_personOf 28 = .ok (.iconst 2, 1) := by decide +kernel
theorem dX11_personOf_29 : decode cX11_personOf 29 = .ok (.goto 4, 3) := by decide +kernel
theorem dX11_personOf_32 : decode cX11_personOf 32 = .ok (.iconst 0, 1) := by decide +kernel
theorem dX11_personOf_33 : decode cX11_personOf 33 = .ok (.invokevirtual 120, 3) := by decide +kernel
theorem dX11_personOf_36 : decode cX11_personOf 36 = .ok (.ifCond .eq 5, 3) := by decide +kernel
theorem dX11_personOf_39 : decode cX11_personOf 39 = .ok (.iconst 0, 1) := by decide +kernel
theorem dX11_personOf_40 : decode cX11_personOf 40 = .ok (.ireturn, 1) := by decide +kernel
theorem dX11_personOf_41 : decode cX11_personOf 41 = .ok (.iload_n 2, 1) := by decide +kernel
theorem dX11_personOf_42 : decode cX11_personOf 42 = .ok (.tableswitch 89 3 8 #[38, 47, 53, 60, 67, 78], 38) := by decide +kernel
theorem dX11_personOf_80 : decode cX11_personOf 80 = .ok (.aload_n 0, 1) := by decide +kernel
theorem dX11_personOf_81 : decode cX11_personOf 81 = .ok (.getfield 7, 3) := by decide +kernel
theorem dX11_personOf_84 : decode cX11_personOf 84 = .ok (.iload_n 1, 1) := by decide +kernel
theorem dX11_personOf_85 : decode cX11_personOf 85 = .ok (.invokestatic 80, 3) := by decide +kernel
theorem dX11_personOf_88 : decode cX11_personOf 88 = .ok (.ireturn, 1) := by decide +kernel
theorem dX11_personOf_89 : decode cX11_personOf 89 = .ok (.aload_n 0, 1) := by decide +kernel
theorem dX11_personOf_90 : decode cX11_personOf 90 = .ok (.iload_n 1, 1) := by decide +kernel
theorem dX11_personOf_91 : decode cX11_personOf 91 = .ok (.invokevirtual 231, 3) := by decide +kernel
theorem dX11_personOf_94 : decode cX11_personOf 94 = .ok (.ireturn, 1) := by decide +kernel
theorem dX11_personOf_95 : decode cX11_personOf 95 = .ok (.aload_n 0, 1) := by decide +kernel
theorem dX11_personOf_96 : decode cX11_personOf 96 = .ok (.iload_n 1, 1) := by decide +kernel
theorem dX11_personOf_97 : decode cX11_personOf 97 = .ok (.iconst 0, 1) := by decide +kernel
theorem dX11_personOf_98 : decode cX11_personOf 98 = .ok (.invokevirtual 234, 3) := by decide +kernel
theorem dX11_personOf_101 : decode cX11_personOf 101 = .ok (.ireturn, 1) := by decide +kernel
theorem dX11_personOf_102 : decode cX11_personOf 102 = .ok (.aload_n 0, 1) := by decide +kernel
theorem dX11_personOf_103 : decode cX11_personOf 103 = .ok (.iload_n 1, 1) := by decide +kernel
theorem dX11_personOf_104 : decode cX11_personOf 104 = .ok (.iconst 1, 1) := by decide +kernel
theorem dX11_personOf_105 : decode cX11_personOf 105 = .ok (.invokevirtual 234, 3) := by decide +kernel
theorem dX11_personOf_108 : decode cX11_personOf 108 = .ok (.ireturn, 1) := by decide +kernel
theorem dX11_personOf_109 : decode cX11_personOf 109 = .ok (.aload_n 0, 1) := by decide +kernel
theorem dX11_personOf_110 : decode cX11_personOf 110 = .ok (.getfield 7, 3) := by decide +kernel
theorem dX11_personOf_113 : decode cX11_personOf 113 = .ok (.iconst 5, 1) := by decide +kernel
theorem dX11_personOf_114 : decode cX11_personOf 114 = .ok (.iload_n 1, 1) := by decide +kernel
theorem dX11_personOf_115 : decode cX11_personOf 115 = .ok (.imul, 1) := by decide +kernel
theorem dX11_personOf_116 : decode cX11_personOf 116 = .ok (.iconst 3, 1) := by decide +kernel
theorem dX11_personOf_117 : decode cX11_personOf 117 = .ok (.iadd, 1) := by decide +kernel
theorem dX11_personOf_118 : decode cX11_personOf 118 = .ok (.iaload, 1) := by decide +kernel
theorem dX11_personOf_119 : decode cX11_personOf 119 = .ok (.ireturn, 1) := by decide +kernel
theorem dX11_personOf_120 : decode cX11_personOf 120 = .ok (.aload_n 0, 1) := by decide +kernel
theorem dX11_personOf_121 : decode cX11_personOf 121 = .ok (.getfield 7, 3) := by decide +kernel
theorem dX11_personOf_124 : decode cX11_personOf 124 = .ok (.iconst 5, 1) := by decide +kernel
theorem dX11_personOf_125 : decode cX11_personOf 125 = .ok (.iload_n 1, 1) := by decide +kernel
theorem dX11_personOf_126 : decode cX11_personOf 126 = .ok (.imul, 1) := by decide +kernel
theorem dX11_personOf_127 : decode cX11_personOf 127 = .ok (.iconst 4, 1) := by decide +kernel
theorem dX11_personOf_128 : decode cX11_personOf 128 = .ok (.iadd, 1) := by decide +kernel
theorem dX11_personOf_129 : decode cX11_personOf 129 = .ok (.iaload, 1) := by decide +kernel
theorem dX11_personOf_130 : decode cX11_personOf 130 = .ok (.ireturn, 1) := by decide +kernel
theorem dX11_personOf_131 : decode cX11_personOf 131 = .ok (.aload_n 0, 1) := by decide +kernel
theorem dX11_personOf_132 : decode cX11_personOf 132 = .ok (.getfield 7, 3) := by decide +kernel
theorem dX11_personOf_135 : decode cX11_personOf 135 = .ok (.iconst 5, 1) := by decide +kernel
theorem dX11_personOf_136 : decode cX11_personOf 136 = .ok (.iload_n 1, 1) := by decide +kernel
theorem dX11_personOf_137 : decode cX11_personOf 137 = .ok (.imul, 1) := by decide +kernel
theorem dX11_personOf_138 : decode cX11_personOf 138 = .ok (.iload_n 2, 1) := by decide +kernel
theorem dX11_personOf_139 : decode cX11_personOf 139 = .ok (.iadd, 1) := by decide +kernel
theorem dX11_personOf_140 : decode cX11_personOf 140 = .ok (.iaload, 1) := by decide +kernel
theorem dX11_personOf_141 : decode cX11_personOf 141 = .ok (.ireturn, 1) := by decide +kernel
theorem dX11_nameOf_0 : decode cX11_nameOf 0 = .ok (.aload_n 0, 1) := by decide +kernel
theorem dX11_nameOf_1 : decode cX11_nameOf 1 = .ok (.aload_n 0, 1) := by decide +kernel
theorem dX11_nameOf_2 : decode cX11_nameOf 2 = .ok (.getfield 7, 3) := by decide +kernel
theorem dX11_nameOf_5 : decode cX11_nameOf 5 = .ok (.iload_n 1, 1) := by decide +kernel
theorem dX11_nameOf_6 : decode cX11_nameOf 6 = .ok (.invokestatic 238, 3) := by decide +kernel
theorem dX11_nameOf_9 : decode cX11_nameOf 9 = .ok (.ifCond .ne 7, 3) := by decide +kernel
theorem dX11_nameOf_12 : decode cX11_nameOf 12 = .ok (.iconst 1, 1) := by decide +kernel
theorem dX11_nameOf_13 : decode cX11_nameOf 13 = .ok (.goto 20, 3) := by decide +kernel
theorem dX11_nameOf_16 : decode cX11_nameOf 16 = .ok (.iload_n 2, 1) := by decide +kernel
theorem dX11_nameOf_17 : decode cX11_nameOf 17 = .ok (.i2l, 1) := by decide +kernel
theorem dX11_nameOf_18 : decode cX11_nameOf 18 = .ok (.lconst 0, 1) := by decide +kernel
theorem dX11_nameOf_19 : decode cX11_nameOf 19 = .ok (.ldc2_w 241, 3) := by decide +kernel
theorem dX11_nameOf_22 : decode cX11_nameOf 22 = .ok (.invokestatic 45, 3) := by decide +kernel
theorem dX11_nameOf_25 : decode cX11_nameOf 25 = .ok (.ifCond .ne 7, 3) := by decide +kernel
theorem dX11_nameOf_28 : decode cX11_nameOf 28 = .ok (.iconst 2, 1) := by decide +kernel
theorem dX11_nameOf_29 : decode cX11_nameOf 29 = .ok (.goto 4, 3) := by decide +kernel
theorem dX11_nameOf_32 : decode cX11_nameOf 32 = .ok (.iconst 0, 1) := by decide +kernel
theorem dX11_nameOf_33 : decode cX11_nameOf 33 = .ok (.invokevirtual 120, 3) := by decide +kernel
theorem dX11_nameOf_36 : decode cX11_nameOf 36 = .ok (.ifCond .eq 5, 3) := by decide +kernel
theorem dX11_nameOf_39 : decode cX11_nameOf 39 = .ok (.iconst 0, 1) := by decide +kernel
theorem dX11_nameOf_40 : decode cX11_nameOf 40 = .ok (.ireturn, 1) := by decide +kernel
theorem dX11_nameOf_41 : decode cX11_nameOf 41 = .ok (.aload_n 0, 1) := by decide +kernel
theorem dX11_nameOf_42 : decode cX11_nameOf 42 = .ok (.getfield 7, 3) := by decide +kernel
theorem dX11_nameOf_45 : decode cX11_nameOf 45 = .ok (.iload_n 1, 1) := by decide +kernel
theorem dX11_nameOf_46 : decode cX11_nameOf 46 = .ok (.invokestatic 61, 3) := by decide +kernel
theorem dX11_nameOf_49 : decode cX11_nameOf 49 = .ok (.iload_n 2, 1) := by decide +kernel
theorem dX11_nameOf_50 : decode cX11_nameOf 50 = .ok (.iadd, 1) := by decide +kernel
theorem dX11_nameOf_51 : decode cX11_nameOf 51 = .ok (.iaload, 1) := by decide +kernel
theorem dX11_nameOf_52 : decode cX11_nameOf 52 = .ok (.ireturn, 1) := by decide +kernel
theorem dX11_letterAt_0 : decode cX11_letterAt 0 = .ok (.aload_n 0, 1) := by decide +kernel
theorem dX11_letterAt_1 : decode cX11_letterAt 1 = .ok (.iload_n 1, 1) := by decide +kernel
theorem dX11_letterAt_2 : decode cX11_letterAt 2 = .ok (.invokestatic 61, 3) := by decide +kernel
theorem dX11_letterAt_5 : decode cX11_letterAt 5 = .ok (.iconst 1, 1) := by decide +kernel
theorem dX11_letterAt_6 : decode cX11_letterAt 6 = .ok (.iadd, 1) := by decide +kernel
theorem dX11_letterAt_7 : decode cX11_letterAt 7 = .ok (.iaload, 1) := by decide +kernel
theorem dX11_letterAt_8 : decode cX11_letterAt 8 = .ok (.istore_n 3, 1) := by decide +kernel
theorem dX11_letterAt_9 : decode cX11_letterAt 9 = .ok (.aload_n 0, 1) := by decide +kernel
theorem dX11_letterAt_10 : decode cX11_letterAt 10 = .ok (.iload_n 1, 1) := by decide +kernel
theorem dX11_letterAt_11 : decode cX11_letterAt 11 = .ok (.invokestatic 61, 3) := by decide +kernel
theorem dX11_letterAt_14 : decode cX11_letterAt 14 = .ok (.iconst 0, 1) := by decide +kernel
theorem dX11_letterAt_15 : decode cX11_letterAt 15 = .ok (.iadd, 1) := by decide +kernel
theorem dX11_letterAt_16 : decode cX11_letterAt 16 = .ok (.iaload, 1) := by decide +kernel
theorem dX11_letterAt_17 : decode cX11_letterAt 17 = .ok (.iconst 1, 1) := by decide +kernel
theorem dX11_letterAt_18 : decode cX11_letterAt 18 = .ok (.isub, 1) := by decide +kernel
theorem dX11_letterAt_19 : decode cX11_letterAt 19 = .ok (.istore 4, 2) := by decide +kernel
theorem dX11_letterAt_21 : decode cX11_letterAt 21 = .ok (.iload 4, 2) := by decide +kernel
theorem dX11_letterAt_23 : decode cX11_letterAt 23 = .ok (.iload_n 2, 1) := by decide +kernel
theorem dX11_letterAt_24 : decode cX11_letterAt 24 = .ok (.if_icmp .le 14, 3) := by decide +kernel
theorem dX11_letterAt_27 : decode cX11_letterAt 27 = .ok (.iload_n 3, 1) := by decide +kernel
theorem dX11_letterAt_28 : decode cX11_letterAt 28 = .ok (.bipush 26, 2) := by decide +kernel
theorem dX11_letterAt_30 : decode cX11_letterAt 30 = .ok (.idiv, 1) := by decide +kernel
theorem dX11_letterAt_31 : decode cX11_letterAt 31 = .ok (.istore_n 3, 1) := by decide +kernel
theorem dX11_letterAt_32 : decode cX11_letterAt 32 = .ok (.iinc 4 (-1), 3) := by decide +kernel
theorem dX11_letterAt_35 : decode cX11_letterAt 35 = .ok (.goto (-14), 3) := by decide +kernel
theorem dX11_letterAt_38 : decode cX11_letterAt 38 = .ok (.iload_n 3, 1) := by decide +kernel
theorem dX11_letterAt_39 : decode cX11_letterAt 39 = .ok (.bipush 26, 2) := by decide +kernel
theorem dX11_letterAt_41 : decode cX11_letterAt 41 = .ok (.irem, 1) := by decide +kernel
theorem dX11_letterAt_42 : decode cX11_letterAt 42 = .ok (.ireturn, 1) := by decide +kernel
theorem dX11_letter_0 : decode cX11_letter 0 = .ok (.aload_n 0, 1) := by decide +kernel
theorem dX11_letter_1 : decode cX11_letter 1 = .ok (.aload_n 0, 1) := by decide +kernel
theorem dX11_letter_2 : decode cX11_letter 2 = .ok (.getfield 7, 3) := by decide +kernel
theorem dX11_letter_5 : decode cX11_letter 5 = .ok (.iload_n 1, 1) := by decide +kernel
theorem dX11_letter_6 : decode cX11_letter 6 = .ok (.invokestatic 238, 3) := by decide +kernel
theorem dX11_letter_9 : decode cX11_letter 9 = .ok (.ifCond .eq 11, 3) := by decide +kernel
theorem dX11_letter_12 : decode cX11_letter 12 = .ok (.iload_n 2, 1) := by decide +kernel
theorem dX11_letter_13 : decode cX11_letter 13 = .ok (.ifCond .lt 7, 3) := by decide +kernel
theorem dX11_letter_16 : decode cX11_letter 16 = .ok (.iconst 0, 1) := by decide +kernel
theorem dX11_letter_17 : decode cX11_letter 17 = .ok (.goto 4, 3) := by decide +kernel
theorem dX11_letter_20 : decode cX11_letter 20 = .ok (.iconst 1, 1) := by decide +kernel
theorem dX11_letter_21 : decode cX11_letter 21 = .ok (.invokevirtual 120, 3) := by decide +kernel
theorem dX11_letter_24 : decode cX11_letter 24 = .ok (.ifCond .eq 5, 3) := by decide +kernel
theorem dX11_letter_27 : decode cX11_letter 27 = .ok (.iconst 0, 1) := by decide +kernel
theorem dX11_letter_28 : decode cX11_letter 28 = .ok (.ireturn, 1) := by decide +kernel
theorem dX11_letter_29 : decode cX11_letter 29 = .ok (.iload_n 2, 1) := by decide +kernel
theorem dX11_letter_30 : decode cX11_letter 30 = .ok (.aload_n 0, 1) := by decide +kernel
theorem dX11_letter_31 : decode cX11_letter 31 = .ok (.getfield 7, 3) := by decide +kernel
theorem dX11_letter_34 : decode cX11_letter 34 = .ok (.iload_n 1, 1) := by decide +kernel
theorem dX11_letter_35 : decode cX11_letter 35 = .ok (.invokestatic 61, 3) := by decide +kernel
theorem dX11_letter_38 : decode cX11_letter 38 = .ok (.iconst 0, 1) := by decide +kernel
theorem dX11_letter_39 : decode cX11_letter 39 = .ok (.iadd, 1) := by decide +kernel
theorem dX11_letter_40 : decode cX11_letter 40 = .ok (.iaload, 1) := by decide +kernel
theorem dX11_letter_41 : decode cX11_letter 41 = .ok (.if_icmp .ge 15, 3) := by decide +kernel
theorem dX11_letter_44 : decode cX11_letter 44 = .ok (.aload_n 0, 1) := by decide +kernel
theorem dX11_letter_45 : decode cX11_letter 45 = .ok (.getfield 7, 3) := by decide +kernel
theorem dX11_letter_48 : decode cX11_letter 48 = .ok (.iload_n 1, 1) := by decide +kernel
theorem dX11_letter_49 : decode cX11_letter 49 = .ok (.iload_n 2, 1) := by decide +kernel
theorem dX11_letter_50 : decode cX11_letter 50 = .ok (.invokestatic 243, 3) := by decide +kernel
theorem dX11_letter_53 : decode cX11_letter 53 = .ok (.goto 4, 3) := by decide +kernel
theorem dX11_letter_56 : decode cX11_letter 56 = .ok (.iconst (-1), 1) := by decide +kernel
theorem dX11_letter_57 : decode cX11_letter 57 = .ok (.ireturn, 1) := by decide +kernel
theorem dX11_isAhead_0 : decode cX11_isAhead 0 = .ok (.aload_n 0, 1) := by decide +kernel
theorem dX11_isAhead_1 : decode cX11_isAhead 1 = .ok (.getfield 7, 3) := by decide +kernel
theorem dX11_isAhead_4 : decode cX11_isAhead 4 = .ok (.iload_n 1, 1) := by decide +kernel
theorem dX11_isAhead_5 : decode cX11_isAhead 5 = .ok (.invokestatic 61, 3) := by decide +kernel
theorem dX11_isAhead_8 : decode cX11_isAhead 8 = .ok (.iconst 0, 1) := by decide +kernel
theorem dX11_isAhead_9 : decode cX11_isAhead 9 = .ok (.iadd, 1) := by decide +kernel
theorem dX11_isAhead_10 : decode cX11_isAhead 10 = .ok (.iaload, 1) := by decide +kernel
theorem dX11_isAhead_11 : decode cX11_isAhead 11 = .ok (.istore_n 3, 1) := by decide +kernel
theorem dX11_isAhead_12 : decode cX11_isAhead 12 = .ok (.aload_n 0, 1) := by decide +kernel
theorem dX11_isAhead_13 : decode cX11_isAhead 13 = .ok (.getfield 7, 3) := by decide +kernel
theorem dX11_isAhead_16 : decode cX11_isAhead 16 = .ok (.iload_n 2, 1) := by decide +kernel
theorem dX11_isAhead_17 : decode cX11_isAhead 17 = .ok (.invokestatic 61, 3) := by decide +kernel
theorem dX11_isAhead_20 : decode cX11_isAhead 20 = .ok (.iconst 0, 1) := by decide +kernel
theorem dX11_isAhead_21 : decode cX11_isAhead 21 = .ok (.iadd, 1) := by decide +kernel
theorem dX11_isAhead_22 : decode cX11_isAhead 22 = .ok (.iaload, 1) := by decide +kernel
theorem dX11_isAhead_23 : decode cX11_isAhead 23 = .ok (.istore 4, 2) := by decide +kernel
theorem dX11_isAhead_25 : decode cX11_isAhead 25 = .ok (.iconst 0, 1) := by decide +kernel
theorem dX11_isAhead_26 : decode cX11_isAhead 26 = .ok (.istore 5, 2) := by decide +kernel
theorem dX11_isAhead_28 : decode cX11_isAhead 28 = .ok (.iload 5, 2) := by decide +kernel
theorem dX11_isAhead_30 : decode cX11_isAhead 30 = .ok (.iload_n 3, 1) := by decide +kernel
theorem dX11_isAhead_31 : decode cX11_isAhead 31 = .ok (.if_icmp .ge 55, 3) := by decide +kernel
theorem dX11_isAhead_34 : decode cX11_isAhead 34 = .ok (.iload 5, 2) := by decide +kernel
theorem dX11_isAhead_36 : decode cX11_isAhead 36 = .ok (.iload 4, 2) := by decide +kernel
theorem dX11_isAhead_38 : decode cX11_isAhead 38 = .ok (.if_icmp .ge 48, 3) := by decide +kernel
theorem dX11_isAhead_41 : decode cX11_isAhead 41 = .ok (.aload_n 0, 1) := by decide +kernel
theorem dX11_isAhead_42 : decode cX11_isAhead 42 = .ok (.getfield 7, 3) := by decide +kernel
theorem dX11_isAhead_45 : decode cX11_isAhead 45 = .ok (.iload_n 1, 1) := by decide +kernel
theorem dX11_isAhead_46 : decode cX11_isAhead 46 = .ok (.iload 5, 2) := by decide +kernel
theorem dX11_isAhead_48 : decode cX11_isAhead 48 = .ok (.invokestatic 243, 3) := by decide +kernel
theorem dX11_isAhead_51 : decode cX11_isAhead 51 = .ok (.aload_n 0, 1) := by decide +kernel
theorem dX11_isAhead_52 : decode cX11_isAhead 52 = .ok (.getfield 7, 3) := by decide +kernel
theorem dX11_isAhead_55 : decode cX11_isAhead 55 = .ok (.iload_n 2, 1) := by decide +kernel
theorem dX11_isAhead_56 : decode cX11_isAhead 56 = .ok (.iload 5, 2) := by decide +kernel
theorem dX11_isAhead_58 : decode cX11_isAhead 58 = .ok (.invokestatic 243, 3) := by decide +kernel
theorem dX11_isAhead_61 : decode cX11_isAhead 61 = .ok (.isub, 1) := by decide +kernel
theorem dX11_isAhead_62 : decode cX11_isAhead 62 = .ok (.istore 6, 2) := by decide +kernel
theorem dX11_isAhead_64 : decode cX11_isAhead 64 = .ok (.iload 6, 2) := by decide +kernel
theorem dX11_isAhead_66 : decode cX11_isAhead 66 = .ok (.ifCond .eq 14, 3) := by decide +kernel
theorem dX11_isAhead_69 : decode cX11_isAhead 69 = .ok (.iload 6, 2) := by decide +kernel
theorem dX11_isAhead_71 : decode cX11_isAhead 71 = .ok (.ifCond .ge 7, 3) := by decide +kernel
theorem dX11_isAhead_74 : decode cX11_isAhead 74 = .ok (.iconst 1, 1) := by decide +kernel
theorem dX11_isAhead_75 : decode cX11_isAhead 75 = .ok (.goto 4, 3) := by decide +kernel
theorem dX11_isAhead_78 : decode cX11_isAhead 78 = .ok (.iconst 0, 1) := by decide +kernel
theorem dX11_isAhead_79 : decode cX11_isAhead 79 = .ok (.ireturn, 1) := by decide +kernel
theorem dX11_isAhead_80 : decode cX11_isAhead 80 = .ok (.iinc 5 1, 3) := by decide +kernel
theorem dX11_isAhead_83 : decode cX11_isAhead 83 = .ok (.goto (-55), 3) := by decide +kernel
theorem dX11_isAhead_86 : decode cX11_isAhead 86 = .ok (.iload_n 3, 1) := by decide +kernel
theorem dX11_isAhead_87 : decode cX11_isAhead 87 = .ok (.iload 4, 2) := by decide +kernel
theorem dX11_isAhead_89 : decode cX11_isAhead 89 = .ok (.if_icmp .eq 17, 3) := by decide +kernel
theorem dX11_isAhead_92 : decode cX11_isAhead 92 = .ok (.iload_n 3, 1) := by decide +kernel
theorem dX11_isAhead_93 : decode cX11_isAhead 93 = .ok (.iload 4, 2) := by decide +kernel
theorem dX11_isAhead_95 : decode cX11_isAhead 95 = .ok (.if_icmp .ge 7, 3) := by decide +kernel
theorem dX11_isAhead_98 : decode cX11_isAhead 98 = .ok (.iconst 1, 1) := by decide +kernel
theorem dX11_isAhead_99 : decode cX11_isAhead 99 = .ok (.goto 17, 3) := by decide +kernel
theorem dX11_isAhead_102 : decode cX11_isAhead 102 = .ok (.iconst 0, 1) := by decide +kernel
theorem dX11_isAhead_103 : decode cX11_isAhead 103 = .ok (.goto 13, 3) := by decide +kernel
theorem dX11_isAhead_106 : decode cX11_isAhead 106 = .ok (.iload_n 1, 1) := by decide +kernel
theorem dX11_isAhead_107 : decode cX11_isAhead 107 = .ok (.iload_n 2, 1) := by decide +kernel
theorem dX11_isAhead_108 : decode cX11_isAhead 108 = .ok (.if_icmp .ge 7, 3) := by decide +kernel
theorem dX11_isAhead_111 : decode cX11_isAhead 111 = .ok (.iconst 1, 1) := by decide +kernel
theorem dX11_isAhead_112 : decode cX11_isAhead 112 = .ok (.goto 4, 3) := by decide +kernel
theorem dX11_isAhead_115 : decode cX11_isAhead 115 = .ok (.iconst 0, 1) := by decide +kernel
theorem dX11_isAhead_116 : decode cX11_isAhead 116 = .ok (.ireturn, 1) := by decide +kernel
theorem dX11_roll_0 : decode cX11_roll 0 = .ok (.aload_n 0, 1) := by decide +kernel
theorem dX11_roll_1 : decode cX11_roll 1 = .ok (.iload_n 1, 1) := by decide +kernel
theorem dX11_roll_2 : decode cX11_roll 2 = .ok (.ifCond .lt 7, 3) := by decide +kernel
theorem dX11_roll_5 : decode cX11_roll 5 = .ok (.iconst 0, 1) := by decide +kernel
theorem dX11_roll_6 : decode cX11_roll 6 = .ok (.goto 4, 3) := by decide +kernel
theorem dX11_roll_9 : decode cX11_roll 9 = .ok (.iconst 1, 1) := by decide +kernel
theorem dX11_roll_10 : decode cX11_roll 10 = .ok (.invokevirtual 120, 3) := by decide +kernel
theorem dX11_roll_13 : decode cX11_roll 13 = .ok (.ifCond .eq 5, 3) := by decide +kernel
theorem dX11_roll_16 : decode cX11_roll 16 = .ok (.iconst 0, 1) := by decide +kernel
theorem dX11_roll_17 : decode cX11_roll 17 = .ok (.ireturn, 1) := by decide +kernel
theorem dX11_roll_18 : decode cX11_roll 18 = .ok (.iconst 0, 1) := by decide +kernel
theorem dX11_roll_19 : decode cX11_roll 19 = .ok (.istore_n 2, 1) := by decide +kernel
theorem dX11_roll_20 : decode cX11_roll 20 = .ok (.iload_n 2, 1) := by decide +kernel
theorem dX11_roll_21 : decode cX11_roll 21 = .ok (.aload_n 0, 1) := by decide +kernel
theorem dX11_roll_22 : decode cX11_roll 22 = .ok (.getfield 7, 3) := by decide +kernel
theorem dX11_roll_25 : decode cX11_roll 25 = .ok (.sipush 381, 3) := by decide +kernel
theorem dX11_roll_28 : decode cX11_roll 28 = .ok (.iaload, 1) := by decide +kernel
theorem dX11_roll_29 : decode cX11_roll 29 = .ok (.if_icmp .ge 87, 3) := by decide +kernel
theorem dX11_roll_32 : decode cX11_roll 32 = .ok (.iconst 0, 1) := by decide +kernel
theorem dX11_roll_33 : decode cX11_roll 33 = .ok (.istore_n 3, 1) := by decide +kernel
theorem dX11_roll_34 : decode cX11_roll 34 = .ok (.iconst 0, 1) := by decide +kernel
theorem dX11_roll_35 : decode cX11_roll 35 = .ok (.istore 4, 2) := by decide +kernel
theorem dX11_roll_37 : decode cX11_roll 37 = .ok (.iload 4, 2) := by decide +kernel
theorem dX11_roll_39 : decode cX11_roll 39 = .ok (.aload_n 0, 1) := by decide +kernel
theorem dX11_roll_40 : decode cX11_roll 40 = .ok (.getfield 7, 3) := by decide +kernel
theorem dX11_roll_43 : decode cX11_roll 43 = .ok (.sipush 381, 3) := by decide +kernel
theorem dX11_roll_46 : decode cX11_roll 46 = .ok (.iaload, 1) := by decide +kernel
theorem dX11_roll_47 : decode cX11_roll 47 = .ok (.if_icmp .ge 45, 3) := by decide +kernel
theorem dX11_roll_50 : decode cX11_roll 50 = .ok (.iload_n 3, 1) := by decide +kernel
theorem dX11_roll_51 : decode cX11_roll 51 = .ok (.aload_n 0, 1) := by decide +kernel
theorem dX11_roll_52 : decode cX11_roll 52 = .ok (.getfield 7, 3) := by decide +kernel
theorem dX11_roll_55 : decode cX11_roll 55 = .ok (.iload 4, 2) := by decide +kernel
theorem dX11_roll_57 : decode cX11_roll 57 = .ok (.invokestatic 64, 3) := by decide +kernel
theorem dX11_roll_60 : decode cX11_roll 60 = .ok (.ifCond .eq 23, 3) := by decide +kernel
theorem dX11_roll_63 : decode cX11_roll 63 = .ok (.iload 4, 2) := by decide +kernel
theorem dX11_roll_65 : decode cX11_roll 65 = .ok (.iload_n 2, 1) := by decide +kernel
theorem dX11_roll_66 : decode cX11_roll 66 = .ok (.if_icmp .eq 17, 3) := by decide +kernel
theorem dX11_roll_69 : decode cX11_roll 69 = .ok (.aload_n 0, 1) := by decide +kernel
theorem dX11_roll_70 : decode cX11_roll 70 = .ok (.iload 4, 2) := by decide +kernel
theorem dX11_roll_72 : decode cX11_roll 72 = .ok (.iload_n 2, 1) := by decide +kernel
theorem dX11_roll_73 : decode cX11_roll 73 = .ok (.invokevirtual 246, 3) := by decide +kernel
theorem dX11_roll_76 : decode cX11_roll 76 = .ok (.ifCond .eq 7, 3) := by decide +kernel
theorem dX11_roll_79 : decode cX11_roll 79 = .ok (.iconst 1, 1) := by decide +kernel
theorem dX11_roll_80 : decode cX11_roll 80 = .ok (.goto 4, 3) := by decide +kernel
theorem dX11_roll_83 : decode cX11_roll 83 = .ok (.iconst 0, 1) := by decide +kernel
theorem dX11_roll_84 : decode cX11_roll 84 = .ok (.iadd, 1) := by decide +kernel
theorem dX11_roll_85 : decode cX11_roll 85 = .ok (.istore_n 3, 1) := by decide +kernel
theorem dX11_roll_86 : decode cX11_roll 86 = .ok (.iinc 4 1, 3) := by decide +kernel
theorem dX11_roll_89 : decode cX11_roll 89 = .ok (.goto (-52), 3) := by decide +kernel
theorem dX11_roll_92 : decode cX11_roll 92 = .ok (.aload_n 0, 1) := by decide +kernel
theorem dX11_roll_93 : decode cX11_roll 93 = .ok (.getfield 7, 3) := by decide +kernel
theorem dX11_roll_96 : decode cX11_roll 96 = .ok (.iload_n 2, 1) := by decide +kernel
theorem dX11_roll_97 : decode cX11_roll 97 = .ok (.invokestatic 64, 3) := by decide +kernel
theorem dX11_roll_100 : decode cX11_roll 100 = .ok (.ifCond .eq 10, 3) := by decide +kernel
theorem dX11_roll_103 : decode cX11_roll 103 = .ok (.iload_n 3, 1) := by decide +kernel
theorem dX11_roll_104 : decode cX11_roll 104 = .ok (.iload_n 1, 1) := by decide +kernel
theorem dX11_roll_105 : decode cX11_roll 105 = .ok (.if_icmp .ne 5, 3) := by decide +kernel
theorem dX11_roll_108 : decode cX11_roll 108 = .ok (.iload_n 2, 1) := by decide +kernel
theorem dX11_roll_109 : decode cX11_roll 109 = .ok (.ireturn, 1) := by decide +kernel
theorem dX11_roll_110 : decode cX11_roll 110 = .ok (.iinc 2 1, 3) := by decide +kernel
theorem dX11_roll_113 : decode cX11_roll 113 = .ok (.goto (-93), 3) := by decide +kernel
theorem dX11_roll_116 : decode cX11_roll 116 = .ok (.iconst (-1), 1) := by decide +kernel
theorem dX11_roll_117 : decode cX11_roll 117 = .ok (.ireturn, 1) := by decide +kernel
theorem dX11_meant_0 : decode cX11_meant 0 = .ok (.aload_n 0, 1) := by decide +kernel
theorem dX11_meant_1 : decode cX11_meant 1 = .ok (.iload_n 1, 1) := by decide +kernel
theorem dX11_meant_2 : decode cX11_meant 2 = .ok (.invokestatic 249, 3) := by decide +kernel
theorem dX11_meant_5 : decode cX11_meant 5 = .ok (.ifCond .ne 7, 3) := by decide +kernel
theorem dX11_meant_8 : decode cX11_meant 8 = .ok (.iconst 1, 1) := by decide +kernel
theorem dX11_meant_9 : decode cX11_meant 9 = .ok (.goto 27, 3) := by decide +kernel
theorem dX11_meant_12 : decode cX11_meant 12 = .ok (.iload_n 2, 1) := by decide +kernel
theorem dX11_meant_13 : decode cX11_meant 13 = .ok (.iload_n 3, 1) := by decide +kernel
theorem dX11_meant_14 : decode cX11_meant 14 = .ok (.invokestatic 252, 3) := by decide +kernel
theorem dX11_meant_17 : decode cX11_meant 17 = .ok (.ifCond .eq 14, 3) := by decide +kernel
theorem dX11_meant_20 : decode cX11_meant 20 = .ok (.iload 4, 2) := by decide +kernel
theorem dX11_meant_22 : decode cX11_meant 22 = .ok (.i2l, 1) := by decide +kernel
theorem dX11_meant_23 : decode cX11_meant 23 = .ok (.lconst 0, 1) := by decide +kernel
theorem dX11_meant_24 : decode cX11_meant 24 = .ok (.lconst 1, 1) := by decide +kernel
theorem dX11_meant_25 : decode cX11_meant 25 = .ok (.invokestatic 45, 3) := by decide +kernel
theorem dX11_meant_28 : decode cX11_meant 28 = .ok (.ifCond .ne 7, 3) := by decide +kernel
theorem dX11_meant_31 : decode cX11_meant 31 = .ok (.iconst 2, 1) := by decide +kernel
theorem dX11_meant_32 : decode cX11_meant 32 = .ok (.goto 4, 3) := by decide +kernel
theorem dX11_meant_35 : decode cX11_meant 35 = .ok (.iconst 0, 1) := by decide +kernel
theorem dX11_meant_36 : decode cX11_meant 36 = .ok (.invokevirtual 120, 3) := by decide +kernel
theorem dX11_meant_39 : decode cX11_meant 39 = .ok (.ifCond .eq 5, 3) := by decide +kernel
theorem dX11_meant_42 : decode cX11_meant 42 = .ok (.iconst 0, 1) := by decide +kernel
theorem dX11_meant_43 : decode cX11_meant 43 = .ok (.ireturn, 1) := by decide +kernel
theorem dX11_meant_44 : decode cX11_meant 44 = .ok (.aload_n 0, 1) := by decide +kernel
theorem dX11_meant_45 : decode cX11_meant 45 = .ok (.getfield 7, 3) := by decide +kernel
theorem dX11_meant_48 : decode cX11_meant 48 = .ok (.iload_n 1, 1) := by decide +kernel
theorem dX11_meant_49 : decode cX11_meant 49 = .ok (.iload_n 2, 1) := by decide +kernel
theorem dX11_meant_50 : decode cX11_meant 50 = .ok (.iload_n 3, 1) := by decide +kernel
theorem dX11_meant_51 : decode cX11_meant 51 = .ok (.invokestatic 170, 3) := by decide +kernel
theorem dX11_meant_54 : decode cX11_meant 54 = .ok (.ireturn, 1) := by decide +kernel
theorem dX11_person_0 : decode cX11_person 0 = .ok (.iload_n 2, 1) := by decide +kernel
theorem dX11_person_1 : decode cX11_person 1 = .ok (.i2l, 1) := by decide +kernel
theorem dX11_person_2 : decode cX11_person 2 = .ok (.lconst 0, 1) := by decide +kernel
theorem dX11_person_3 : decode cX11_person 3 = .ok (.ldc2_w 255, 3) := by decide +kernel
theorem dX11_person_6 : decode cX11_person 6 = .ok (.invokestatic 45, 3) := by decide +kernel
theorem dX11_person_9 : decode cX11_person 9 = .ok (.ifCond .eq 14, 3) := by decide +kernel
theorem dX11_person_12 : decode cX11_person 12 = .ok (.iload_n 3, 1) := by decide +kernel
theorem dX11_person_13 : decode cX11_person 13 = .ok (.invokestatic 249, 3) := by decide +kernel
theorem dX11_person_16 : decode cX11_person 16 = .ok (.ifCond .eq 7, 3) := by decide +kernel
theorem dX11_person_19 : decode cX11_person 19 = .ok (.iconst 1, 1) := by decide +kernel
theorem dX11_person_20 : decode cX11_person 20 = .ok (.goto 4, 3) := by decide +kernel
theorem dX11_person_23 : decode cX11_person 23 = .ok (.iconst 0, 1) := by decide +kernel
theorem dX11_person_24 : decode cX11_person 24 = .ok (.istore 4, 2) := by decide +kernel
theorem dX11_person_26 : decode cX11_person 26 = .ok (.aload_n 0, 1) := by decide +kernel
theorem dX11_person_27 : decode cX11_person 27 = .ok (.iload 4, 2) := by decide +kernel
theorem dX11_person_29 : decode cX11_person 29 = .ok (.ifCond .ne 7, 3) := by decide +kernel
theorem dX11_person_32 : decode cX11_person 32 = .ok (.iconst 1, 1) := by decide +kernel
theorem dX11_person_33 : decode cX11_person 33 = .ok (.goto 37, 3) := by decide +kernel
theorem dX11_person_36 : decode cX11_person 36 = .ok (.iload_n 1, 1) := by decide +kernel
theorem dX11_person_37 : decode cX11_person 37 = .ok (.i2l, 1) := by decide +kernel
theorem dX11_person_38 : decode cX11_person 38 = .ok (.lconst 0, 1) := by decide +kernel
theorem dX11_person_39 : decode cX11_person 39 = .ok (.ldc2_w 257, 3) := by decide +kernel
theorem dX11_person_42 : decode cX11_person 42 = .ok (.invokestatic 45, 3) := by decide +kernel
theorem dX11_person_45 : decode cX11_person 45 = .ok (.ifCond .ne 7, 3) := by decide +kernel
theorem dX11_person_48 : decode cX11_person 48 = .ok (.iconst 2, 1) := by decide +kernel
theorem dX11_person_49 : decode cX11_person 49 = .ok (.goto 21, 3) := by decide +kernel
theorem dX11_person_52 : decode cX11_person 52 = .ok (.aload_n 0, 1) := by decide +kernel
theorem dX11_person_53 : decode cX11_person 53 = .ok (.getfield 7, 3) := by decide +kernel
theorem dX11_person_56 : decode cX11_person 56 = .ok (.sipush 380, 3) := by decide +kernel
theorem dX11_person_59 : decode cX11_person 59 = .ok (.iaload, 1) := by decide +kernel
theorem dX11_person_60 : decode cX11_person 60 = .ok (.bipush 12, 2) := by decide +kernel
theorem dX11_person_62 : decode cX11_person 62 = .ok (.if_icmp .ne 7, 3) := by decide +kernel
theorem dX11_person_65 : decode cX11_person 65 = .ok (.iconst 3, 1) := by decide +kernel
theorem dX11_person_66 : decode cX11_person 66 = .ok (.goto 4, 3) := by decide +kernel
theorem dX11_person_69 : decode cX11_person 69 = .ok (.iconst 0, 1) := by decide +kernel
theorem dX11_person_70 : decode cX11_person 70 = .ok (.invokevirtual 120, 3) := by decide +kernel
theorem dX11_person_73 : decode cX11_person 73 = .ok (.ifCond .eq 5, 3) := by decide +kernel
theorem dX11_person_76 : decode cX11_person 76 = .ok (.iconst 0, 1) := by decide +kernel
theorem dX11_person_77 : decode cX11_person 77 = .ok (.ireturn, 1) := by decide +kernel
theorem dX11_person_78 : decode cX11_person 78 = .ok (.aload_n 0, 1) := by decide +kernel
theorem dX11_person_79 : decode cX11_person 79 = .ok (.invokevirtual 259, 3) := by decide +kernel
theorem dX11_person_82 : decode cX11_person 82 = .ok (.aload_n 0, 1) := by decide +kernel
theorem dX11_person_83 : decode cX11_person 83 = .ok (.getfield 7, 3) := by decide +kernel
theorem dX11_person_86 : decode cX11_person 86 = .ok (.iload_n 1, 1) := by decide +kernel
theorem dX11_person_87 : decode cX11_person 87 = .ok (.iload_n 2, 1) := by decide +kernel
theorem dX11_person_88 : decode cX11_person 88 = .ok (.iload_n 3, 1) := by decide +kernel
theorem dX11_person_89 : decode cX11_person 89 = .ok (.invokestatic 158, 3) := by decide +kernel
theorem dX11_person_92 : decode cX11_person 92 = .ok (.ireturn, 1) := by decide +kernel
theorem dX11_sit_0 : decode cX11_sit 0 = .ok (.aload_n 0, 1) := by decide +kernel
theorem dX11_sit_1 : decode cX11_sit 1 = .ok (.getfield 7, 3) := by decide +kernel
theorem dX11_sit_4 : decode cX11_sit 4 = .ok (.iload_n 1, 1) := by decide +kernel
theorem dX11_sit_5 : decode cX11_sit 5 = .ok (.invokestatic 164, 3) := by decide +kernel
theorem dX11_sit_8 : decode cX11_sit 8 = .ok (.ifCond .eq 14, 3) := by decide +kernel
theorem dX11_sit_11 : decode cX11_sit 11 = .ok (.iload_n 2, 1) := by decide +kernel
theorem dX11_sit_12 : decode cX11_sit 12 = .ok (.invokestatic 249, 3) := by decide +kernel
theorem dX11_sit_15 : decode cX11_sit 15 = .ok (.ifCond .eq 7, 3) := by decide +kernel
theorem dX11_sit_18 : decode cX11_sit 18 = .ok (.iconst 1, 1) := by decide +kernel
theorem dX11_sit_19 : decode cX11_sit 19 = .ok (.goto 4, 3) := by decide +kernel
theorem dX11_sit_22 : decode cX11_sit 22 = .ok (.iconst 0, 1) := by decide +kernel
theorem dX11_sit_23 : decode cX11_sit 23 = .ok (.istore_n 3, 1) := by decide +kernel
theorem dX11_sit_24 : decode cX11_sit 24 = .ok (.aload_n 0, 1) := by decide +kernel
theorem dX11_sit_25 : decode cX11_sit 25 = .ok (.iload_n 3, 1) := by decide +kernel
theorem dX11_sit_26 : decode cX11_sit 26 = .ok (.ifCond .ne 7, 3) := by decide +kernel
theorem dX11_sit_29 : decode cX11_sit 29 = .ok (.iconst 1, 1) := by decide +kernel
theorem dX11_sit_30 : decode cX11_sit 30 = .ok (.goto 20, 3) := by decide +kernel
theorem dX11_sit_33 : decode cX11_sit 33 = .ok (.aload_n 0, 1) := by decide +kernel
theorem dX11_sit_34 : decode cX11_sit 34 = .ok (.getfield 7, 3) := by decide +kernel
theorem dX11_sit_37 : decode cX11_sit 37 = .ok (.iload_n 1, 1) := by decide +kernel
theorem dX11_sit_38 : decode cX11_sit 38 = .ok (.iload_n 2, 1) := by decide +kernel
theorem dX11_sit_39 : decode cX11_sit 39 = .ok (.invokestatic 176, 3) := by decide +kernel
theorem dX11_sit_42 : decode cX11_sit 42 = .ok (.ifCond .ne 7, 3) := by decide +kernel
theorem dX11_sit_45 : decode cX11_sit 45 = .ok (.iconst 2, 1) := by decide +kernel
theorem dX11_sit_46 : decode cX11_sit 46 = .ok (.goto 4, 3) := by decide +kernel
theorem dX11_sit_49 : decode cX11_sit 49 = .ok (.iconst 0, 1) := by decide +kernel
theorem dX11_sit_50 : decode cX11_sit 50 = .ok (.invokevirtual 120, 3) := by decide +kernel
theorem dX11_sit_53 : decode cX11_sit 53 = .ok (.ifCond .eq 5, 3) := by decide +kernel
theorem dX11_sit_56 : decode cX11_sit 56 = .ok (.iconst 0, 1) := by decide +kernel
theorem dX11_sit_57 : decode cX11_sit 57 = .ok (.ireturn, 1) := by decide +kernel
theorem dX11_sit_58 : decode cX11_sit 58 = .ok (.aload_n 0, 1) := by decide +kernel
theorem dX11_sit_59 : decode cX11_sit 59 = .ok (.invokevirtual 259, 3) := by decide +kernel
theorem dX11_sit_62 : decode cX11_sit 62 = .ok (.aload_n 0, 1) := by decide +kernel
theorem dX11_sit_63 : decode cX11_sit 63 = .ok (.getfield 7, 3) := by decide +kernel
theorem dX11_sit_66 : decode cX11_sit 66 = .ok (.iconst 5, 1) := by decide +kernel
theorem dX11_sit_67 : decode cX11_sit 67 = .ok (.iload_n 1, 1) := by decide +kernel
theorem dX11_sit_68 : decode cX11_sit 68 = .ok (.imul, 1) := by decide +kernel
theorem dX11_sit_69 : decode cX11_sit 69 = .ok (.iconst 2, 1) := by decide +kernel
theorem dX11_sit_70 : decode cX11_sit 70 = .ok (.iadd, 1) := by decide +kernel
theorem dX11_sit_71 : decode cX11_sit 71 = .ok (.iload_n 2, 1) := by decide +kernel
theorem dX11_sit_72 : decode cX11_sit 72 = .ok (.invokestatic 179, 3) := by decide +kernel
theorem dX11_sit_75 : decode cX11_sit 75 = .ok (.ireturn, 1) := by decide +kernel
theorem dX11_areThere_0 : decode cX11_areThere 0 = .ok (.aload_n 0, 1) := by decide +kernel
theorem dX11_areThere_1 : decode cX11_areThere 1 = .ok (.iload_n 1, 1) := by decide +kernel
theorem dX11_areThere_2 : decode cX11_areThere 2 = .ok (.invokestatic 164, 3) := by decide +kernel
theorem dX11_areThere_5 : decode cX11_areThere 5 = .ok (.ifCond .eq 15, 3) := by decide +kernel
theorem dX11_areThere_8 : decode cX11_areThere 8 = .ok (.aload_n 0, 1) := by decide +kernel
theorem dX11_areThere_9 : decode cX11_areThere 9 = .ok (.iload_n 2, 1) := by decide +kernel
theorem dX11_areThere_10 : decode cX11_areThere 10 = .ok (.invokestatic 164, 3) := by decide +kernel
theorem dX11_areThere_13 : decode cX11_areThere 13 = .ok (.ifCond .eq 7, 3) := by decide +kernel
theorem dX11_areThere_16 : decode cX11_areThere 16 = .ok (.iconst 1, 1) := by decide +kernel
theorem dX11_areThere_17 : decode cX11_areThere 17 = .ok (.goto 4, 3) := by decide +kernel
theorem dX11_areThere_20 : decode cX11_areThere 20 = .ok (.iconst 0, 1) := by decide +kernel
theorem dX11_areThere_21 : decode cX11_areThere 21 = .ok (.ireturn, 1) := by decide +kernel
theorem dX11_give_0 : decode cX11_give 0 = .ok (.aload_n 0, 1) := by decide +kernel
theorem dX11_give_1 : decode cX11_give 1 = .ok (.aload_n 0, 1) := by decide +kernel
theorem dX11_give_2 : decode cX11_give 2 = .ok (.getfield 7, 3) := by decide +kernel
theorem dX11_give_5 : decode cX11_give 5 = .ok (.iload_n 1, 1) := by decide +kernel
theorem dX11_give_6 : decode cX11_give 6 = .ok (.iload_n 2, 1) := by decide +kernel
theorem dX11_give_7 : decode cX11_give 7 = .ok (.invokestatic 262, 3) := by decide +kernel
theorem dX11_give_10 : decode cX11_give 10 = .ok (.ifCond .ne 7, 3) := by decide +kernel
theorem dX11_give_13 : decode cX11_give 13 = .ok (.iconst 1, 1) := by decide +kernel
theorem dX11_give_14 : decode cX11_give 14 = .ok (.goto 17, 3) := by decide +kernel
theorem dX11_give_17 : decode cX11_give 17 = .ok (.iload_n 3, 1) := by decide +kernel
theorem dX11_give_18 : decode cX11_give 18 = .ok (.iload 4, 2) := by decide +kernel
theorem dX11_give_20 : decode cX11_give 20 = .ok (.invokestatic 252, 3) := by decide +kernel
theorem dX11_give_23 : decode cX11_give 23 = .ok (.ifCond .ne 7, 3) := by decide +kernel
theorem dX11_give_26 : decode cX11_give 26 = .ok (.iconst 2, 1) := by decide +kernel
theorem dX11_give_27 : decode cX11_give 27 = .ok (.goto 4, 3) := by decide +kernel
theorem dX11_give_30 : decode cX11_give 30 = .ok (.iconst 0, 1) := by decide +kernel
theorem dX11_give_31 : decode cX11_give 31 = .ok (.invokevirtual 120, 3) := by decide +kernel
theorem dX11_give_34 : decode cX11_give 34 = .ok (.ifCond .eq 5, 3) := by decide +kernel
theorem dX11_give_37 : decode cX11_give 37 = .ok (.iconst 0, 1) := by decide +kernel
theorem dX11_give_38 : decode cX11_give 38 = .ok (.ireturn, 1) := by decide +kernel
theorem dX11_give_39 : decode cX11_give 39 = .ok (.aload_n 0, 1) := by decide +kernel
theorem dX11_give_40 : decode cX11_give 40 = .ok (.invokevirtual 259, 3) := by decide +kernel
theorem dX11_give_43 : decode cX11_give 43 = .ok (.aload_n 0, 1) := by decide +kernel
theorem dX11_give_44 : decode cX11_give 44 = .ok (.getfield 7, 3) := by decide +kernel
theorem dX11_give_47 : decode cX11_give 47 = .ok (.iload_n 1, 1) := by decide +kernel
theorem dX11_give_48 : decode cX11_give 48 = .ok (.iload_n 2, 1) := by decide +kernel
theorem dX11_give_49 : decode cX11_give 49 = .ok (.iload_n 3, 1) := by decide +kernel
theorem dX11_give_50 : decode cX11_give 50 = .ok (.iload 4, 2) := by decide +kernel
theorem dX11_give_52 : decode cX11_give 52 = .ok (.invokestatic 167, 3) := by decide +kernel
theorem dX11_give_55 : decode cX11_give 55 = .ok (.ireturn, 1) := by decide +kernel
theorem dX11_call_0 : decode cX11_call 0 = .ok (.aload_n 0, 1) := by decide +kernel
theorem dX11_call_1 : decode cX11_call 1 = .ok (.iload_n 1, 1) := by decide +kernel
theorem dX11_call_2 : decode cX11_call 2 = .ok (.invokestatic 249, 3) := by decide +kernel
theorem dX11_call_5 : decode cX11_call 5 = .ok (.ifCond .ne 7, 3) := by decide +kernel
theorem dX11_call_8 : decode cX11_call 8 = .ok (.iconst 1, 1) := by decide +kernel
theorem dX11_call_9 : decode cX11_call 9 = .ok (.goto 16, 3) := by decide +kernel
theorem dX11_call_12 : decode cX11_call 12 = .ok (.iload_n 2, 1) := by decide +kernel
theorem dX11_call_13 : decode cX11_call 13 = .ok (.iload_n 3, 1) := by decide +kernel
theorem dX11_call_14 : decode cX11_call 14 = .ok (.invokestatic 252, 3) := by decide +kernel
theorem dX11_call_17 : decode cX11_call 17 = .ok (.ifCond .ne 7, 3) := by decide +kernel
theorem dX11_call_20 : decode cX11_call 20 = .ok (.iconst 2, 1) := by decide +kernel
theorem dX11_call_21 : decode cX11_call 21 = .ok (.goto 4, 3) := by decide +kernel
theorem dX11_call_24 : decode cX11_call 24 = .ok (.iconst 0, 1) := by decide +kernel
theorem dX11_call_25 : decode cX11_call 25 = .ok (.invokevirtual 120, 3) := by decide +kernel
theorem dX11_call_28 : decode cX11_call 28 = .ok (.ifCond .eq 5, 3) := by decide +kernel
theorem dX11_call_31 : decode cX11_call 31 = .ok (.iconst 0, 1) := by decide +kernel
theorem dX11_call_32 : decode cX11_call 32 = .ok (.ireturn, 1) := by decide +kernel
theorem dX11_call_33 : decode cX11_call 33 = .ok (.aload_n 0, 1) := by decide +kernel
theorem dX11_call_34 : decode cX11_call 34 = .ok (.invokevirtual 259, 3) := by decide +kernel
theorem dX11_call_37 : decode cX11_call 37 = .ok (.aload_n 0, 1) := by decide +kernel
theorem dX11_call_38 : decode cX11_call 38 = .ok (.getfield 7, 3) := by decide +kernel
theorem dX11_call_41 : decode cX11_call 41 = .ok (.iload_n 1, 1) := by decide +kernel
theorem dX11_call_42 : decode cX11_call 42 = .ok (.iload_n 2, 1) := by decide +kernel
theorem dX11_call_43 : decode cX11_call 43 = .ok (.iload_n 3, 1) := by decide +kernel
theorem dX11_call_44 : decode cX11_call 44 = .ok (.invokestatic 173, 3) := by decide +kernel
theorem dX11_call_47 : decode cX11_call 47 = .ok (.ireturn, 1) := by decide +kernel
theorem dX11_years_0 : decode cX11_years 0 = .ok (.aload_n 0, 1) := by decide +kernel
theorem dX11_years_1 : decode cX11_years 1 = .ok (.iload_n 1, 1) := by decide +kernel
theorem dX11_years_2 : decode cX11_years 2 = .ok (.i2l, 1) := by decide +kernel
theorem dX11_years_3 : decode cX11_years 3 = .ok (.lconst 1, 1) := by decide +kernel
theorem dX11_years_4 : decode cX11_years 4 = .ok (.ldc2_w 59, 3) := by decide +kernel
theorem dX11_years_7 : decode cX11_years 7 = .ok (.invokestatic 45, 3) := by decide +kernel
theorem dX11_years_10 : decode cX11_years 10 = .ok (.ifCond .ne 7, 3) := by decide +kernel
theorem dX11_years_13 : decode cX11_years 13 = .ok (.iconst 1, 1) := by decide +kernel
theorem dX11_years_14 : decode cX11_years 14 = .ok (.goto 19, 3) := by decide +kernel
theorem dX11_years_17 : decode cX11_years 17 = .ok (.aload_n 0, 1) := by decide +kernel
theorem dX11_years_18 : decode cX11_years 18 = .ok (.getfield 7, 3) := by decide +kernel
theorem dX11_years_21 : decode cX11_years 21 = .ok (.iload_n 1, 1) := by decide +kernel
theorem dX11_years_22 : decode cX11_years 22 = .ok (.invokestatic 187, 3) := by decide +kernel
theorem dX11_years_25 : decode cX11_years 25 = .ok (.ifCond .ne 7, 3) := by decide +kernel
theorem dX11_years_28 : decode cX11_years 28 = .ok (.iconst 2, 1) := by decide +kernel
theorem dX11_years_29 : decode cX11_years 29 = .ok (.goto 4, 3) := by decide +kernel
theorem dX11_years_32 : decode cX11_years 32 = .ok (.iconst 0, 1) := by decide +kernel
theorem dX11_years_33 : decode cX11_years 33 = .ok (.invokevirtual 120, 3) := by decide +kernel
theorem dX11_years_36 : decode cX11_years 36 = .ok (.ifCond .eq 5, 3) := by decide +kernel
theorem dX11_years_39 : decode cX11_years 39 = .ok (.iconst 0, 1) := by decide +kernel
theorem dX11_years_40 : decode cX11_years 40 = .ok (.ireturn, 1) := by decide +kernel
theorem dX11_years_41 : decode cX11_years 41 = .ok (.aload_n 0, 1) := by decide +kernel
theorem dX11_years_42 : decode cX11_years 42 = .ok (.invokevirtual 259, 3) := by decide +kernel
theorem dX11_years_45 : decode cX11_years 45 = .ok (.aload_n 0, 1) := by decide +kernel
theorem dX11_years_46 : decode cX11_years 46 = .ok (.getfield 7, 3) := by decide +kernel
theorem dX11_years_49 : decode cX11_years 49 = .ok (.iload_n 1, 1) := by decide +kernel
theorem dX11_years_50 : decode cX11_years 50 = .ok (.invokestatic 190, 3) := by decide +kernel
theorem dX11_years_53 : decode cX11_years 53 = .ok (.ireturn, 1) := by decide +kernel
theorem dX11_set_0 : decode cX11_set 0 = .ok (.aload_n 0, 1) := by decide +kernel
theorem dX11_set_1 : decode cX11_set 1 = .ok (.iload_n 1, 1) := by decide +kernel
theorem dX11_set_2 : decode cX11_set 2 = .ok (.iload_n 2, 1) := by decide +kernel
theorem dX11_set_3 : decode cX11_set 3 = .ok (.invokestatic 183, 3) := by decide +kernel
theorem dX11_set_6 : decode cX11_set 6 = .ok (.ifCond .eq 7, 3) := by decide +kernel
theorem dX11_set_9 : decode cX11_set 9 = .ok (.iconst 0, 1) := by decide +kernel
theorem dX11_set_10 : decode cX11_set 10 = .ok (.goto 4, 3) := by decide +kernel
theorem dX11_set_13 : decode cX11_set 13 = .ok (.iconst 1, 1) := by decide +kernel
theorem dX11_set_14 : decode cX11_set 14 = .ok (.invokevirtual 120, 3) := by decide +kernel
theorem dX11_set_17 : decode cX11_set 17 = .ok (.ifCond .eq 5, 3) := by decide +kernel
theorem dX11_set_20 : decode cX11_set 20 = .ok (.iconst 0, 1) := by decide +kernel
theorem dX11_set_21 : decode cX11_set 21 = .ok (.ireturn, 1) := by decide +kernel
theorem dX11_set_22 : decode cX11_set 22 = .ok (.aload_n 0, 1) := by decide +kernel
theorem dX11_set_23 : decode cX11_set 23 = .ok (.invokevirtual 259, 3) := by decide +kernel
theorem dX11_set_26 : decode cX11_set 26 = .ok (.aload_n 0, 1) := by decide +kernel
theorem dX11_set_27 : decode cX11_set 27 = .ok (.getfield 7, 3) := by decide +kernel
theorem dX11_set_30 : decode cX11_set 30 = .ok (.sipush 386, 3) := by decide +kernel
theorem dX11_set_33 : decode cX11_set 33 = .ok (.iload_n 1, 1) := by decide +kernel
theorem dX11_set_34 : decode cX11_set 34 = .ok (.iadd, 1) := by decide +kernel
theorem dX11_set_35 : decode cX11_set 35 = .ok (.iload_n 2, 1) := by decide +kernel
theorem dX11_set_36 : decode cX11_set 36 = .ok (.invokestatic 179, 3) := by decide +kernel
theorem dX11_set_39 : decode cX11_set 39 = .ok (.ireturn, 1) := by decide +kernel
theorem dX11_undo_0 : decode cX11_undo 0 = .ok (.aload_n 0, 1) := by decide +kernel
theorem dX11_undo_1 : decode cX11_undo 1 = .ok (.aload_n 0, 1) := by decide +kernel
theorem dX11_undo_2 : decode cX11_undo 2 = .ok (.getfield 112, 3) := by decide +kernel
theorem dX11_undo_5 : decode cX11_undo 5 = .ok (.ifCond .ne 7, 3) := by decide +kernel
theorem dX11_undo_8 : decode cX11_undo 8 = .ok (.iconst 1, 1) := by decide +kernel
theorem dX11_undo_9 : decode cX11_undo 9 = .ok (.goto 4, 3) := by decide +kernel
theorem dX11_undo_12 : decode cX11_undo 12 = .ok (.iconst 0, 1) := by decide +kernel
theorem dX11_undo_13 : decode cX11_undo 13 = .ok (.invokevirtual 120, 3) := by decide +kernel
theorem dX11_undo_16 : decode cX11_undo 16 = .ok (.ifCond .eq 5, 3) := by decide +kernel
theorem dX11_undo_19 : decode cX11_undo 19 = .ok (.iconst 0, 1) := by decide +kernel
theorem dX11_undo_20 : decode cX11_undo 20 = .ok (.ireturn, 1) := by decide +kernel
theorem dX11_undo_21 : decode cX11_undo 21 = .ok (.aload_n 0, 1) := by decide +kernel
theorem dX11_undo_22 : decode cX11_undo 22 = .ok (.dup, 1) := by decide +kernel
theorem dX11_undo_23 : decode cX11_undo 23 = .ok (.getfield 112, 3) := by decide +kernel
theorem dX11_undo_26 : decode cX11_undo 26 = .ok (.iconst 1, 1) := by decide +kernel
theorem dX11_undo_27 : decode cX11_undo 27 = .ok (.isub, 1) := by decide +kernel
theorem dX11_undo_28 : decode cX11_undo 28 = .ok (.putfield 112, 3) := by decide +kernel
theorem dX11_undo_31 : decode cX11_undo 31 = .ok (.iconst 0, 1) := by decide +kernel
theorem dX11_undo_32 : decode cX11_undo 32 = .ok (.istore_n 1, 1) := by decide +kernel
theorem dX11_undo_33 : decode cX11_undo 33 = .ok (.iload_n 1, 1) := by decide +kernel
theorem dX11_undo_34 : decode cX11_undo 34 = .ok (.sipush 389, 3) := by decide +kernel
theorem dX11_undo_37 : decode cX11_undo 37 = .ok (.if_icmp .ge 30, 3) := by decide +kernel
theorem dX11_undo_40 : decode cX11_undo 40 = .ok (.aload_n 0, 1) := by decide +kernel
theorem dX11_undo_41 : decode cX11_undo 41 = .ok (.getfield 7, 3) := by decide +kernel
theorem dX11_undo_44 : decode cX11_undo 44 = .ok (.iload_n 1, 1) := by decide +kernel
theorem dX11_undo_45 : decode cX11_undo 45 = .ok (.aload_n 0, 1) := by decide +kernel
theorem dX11_undo_46 : decode cX11_undo 46 = .ok (.getfield 19, 3) := by decide +kernel
theorem dX11_undo_49 : decode cX11_undo 49 = .ok (.sipush 389, 3) := by decide +kernel
theorem dX11_undo_52 : decode cX11_undo 52 = .ok (.aload_n 0, 1) := by decide +kernel
theorem dX11_undo_53 : decode cX11_undo 53 = .ok (.getfield 112, 3) := by decide +kernel
theorem dX11_undo_56 : decode cX11_undo 56 = .ok (.imul, 1) := by decide +kernel
theorem dX11_undo_57 : decode cX11_undo 57 = .ok (.iload_n 1, 1) := by decide +kernel
theorem dX11_undo_58 : decode cX11_undo 58 = .ok (.iadd, 1) := by decide +kernel
theorem dX11_undo_59 : decode cX11_undo 59 = .ok (.iaload, 1) := by decide +kernel
theorem dX11_undo_60 : decode cX11_undo 60 = .ok (.iastore, 1) := by decide +kernel
theorem dX11_undo_61 : decode cX11_undo 61 = .ok (.iinc 1 1, 3) := by decide +kernel
theorem dX11_undo_64 : decode cX11_undo 64 = .ok (.goto (-31), 3) := by decide +kernel
theorem dX11_undo_67 : decode cX11_undo 67 = .ok (.aload_n 0, 1) := by decide +kernel
theorem dX11_undo_68 : decode cX11_undo 68 = .ok (.getfield 112, 3) := by decide +kernel
theorem dX11_undo_71 : decode cX11_undo 71 = .ok (.ireturn, 1) := by decide +kernel
theorem dX11_why_0 : decode cX11_why 0 = .ok (.aload_n 0, 1) := by decide +kernel
theorem dX11_why_1 : decode cX11_why 1 = .ok (.aload_n 0, 1) := by decide +kernel
theorem dX11_why_2 : decode cX11_why 2 = .ok (.getfield 7, 3) := by decide +kernel
theorem dX11_why_5 : decode cX11_why 5 = .ok (.iload_n 1, 1) := by decide +kernel
theorem dX11_why_6 : decode cX11_why 6 = .ok (.iload_n 2, 1) := by decide +kernel
theorem dX11_why_7 : decode cX11_why 7 = .ok (.invokestatic 262, 3) := by decide +kernel
theorem dX11_why_10 : decode cX11_why 10 = .ok (.ifCond .ne 7, 3) := by decide +kernel
theorem dX11_why_13 : decode cX11_why 13 = .ok (.iconst 1, 1) := by decide +kernel
theorem dX11_why_14 : decode cX11_why 14 = .ok (.goto 17, 3) := by decide +kernel
theorem dX11_why_17 : decode cX11_why 17 = .ok (.iload_n 3, 1) := by decide +kernel
theorem dX11_why_18 : decode cX11_why 18 = .ok (.iload 4, 2) := by decide +kernel
theorem dX11_why_20 : decode cX11_why 20 = .ok (.invokestatic 252, 3) := by decide +kernel
theorem dX11_why_23 : decode cX11_why 23 = .ok (.ifCond .ne 7, 3) := by decide +kernel
theorem dX11_why_26 : decode cX11_why 26 = .ok (.iconst 2, 1) := by decide +kernel
theorem dX11_why_27 : decode cX11_why 27 = .ok (.goto 4, 3) := by decide +kernel
theorem dX11_why_30 : decode cX11_why 30 = .ok (.iconst 0, 1) := by decide +kernel
theorem dX11_why_31 : decode cX11_why 31 = .ok (.invokevirtual 120, 3) := by decide +kernel
theorem dX11_why_34 : decode cX11_why 34 = .ok (.ifCond .eq 5, 3) := by decide +kernel
theorem dX11_why_37 : decode cX11_why 37 = .ok (.iconst 0, 1) := by decide +kernel
theorem dX11_why_38 : decode cX11_why 38 = .ok (.ireturn, 1) := by decide +kernel
theorem dX11_why_39 : decode cX11_why 39 = .ok (.aload_n 0, 1) := by decide +kernel
theorem dX11_why_40 : decode cX11_why 40 = .ok (.getfield 7, 3) := by decide +kernel
theorem dX11_why_43 : decode cX11_why 43 = .ok (.iload_n 1, 1) := by decide +kernel
theorem dX11_why_44 : decode cX11_why 44 = .ok (.iload_n 2, 1) := by decide +kernel
theorem dX11_why_45 : decode cX11_why 45 = .ok (.iload_n 3, 1) := by decide +kernel
theorem dX11_why_46 : decode cX11_why 46 = .ok (.iload 4, 2) := by decide +kernel
theorem dX11_why_48 : decode cX11_why 48 = .ok (.invokestatic 87, 3) := by decide +kernel
theorem dX11_why_51 : decode cX11_why 51 = .ok (.ireturn, 1) := by decide +kernel
theorem dX11_endsIn_0 : decode cX11_endsIn 0 = .ok (.aload_n 0, 1) := by decide +kernel
theorem dX11_endsIn_1 : decode cX11_endsIn 1 = .ok (.aload_n 0, 1) := by decide +kernel
theorem dX11_endsIn_2 : decode cX11_endsIn 2 = .ok (.getfield 7, 3) := by decide +kernel
theorem dX11_endsIn_5 : decode cX11_endsIn 5 = .ok (.iload_n 1, 1) := by decide +kernel
theorem dX11_endsIn_6 : decode cX11_endsIn 6 = .ok (.invokestatic 238, 3) := by decide +kernel
theorem dX11_endsIn_9 : decode cX11_endsIn 9 = .ok (.ifCond .eq 7, 3) := by decide +kernel
theorem dX11_endsIn_12 : decode cX11_endsIn 12 = .ok (.iconst 0, 1) := by decide +kernel
theorem dX11_endsIn_13 : decode cX11_endsIn 13 = .ok (.goto 4, 3) := by decide +kernel
theorem dX11_endsIn_16 : decode cX11_endsIn 16 = .ok (.iconst 1, 1) := by decide +kernel
theorem dX11_endsIn_17 : decode cX11_endsIn 17 = .ok (.invokevirtual 120, 3) := by decide +kernel
theorem dX11_endsIn_20 : decode cX11_endsIn 20 = .ok (.ifCond .eq 5, 3) := by decide +kernel
theorem dX11_endsIn_23 : decode cX11_endsIn 23 = .ok (.iconst 0, 1) := by decide +kernel
theorem dX11_endsIn_24 : decode cX11_endsIn 24 = .ok (.ireturn, 1) := by decide +kernel
theorem dX11_endsIn_25 : decode cX11_endsIn 25 = .ok (.aload_n 0, 1) := by decide +kernel
theorem dX11_endsIn_26 : decode cX11_endsIn 26 = .ok (.getfield 7, 3) := by decide +kernel
theorem dX11_endsIn_29 : decode cX11_endsIn 29 = .ok (.aload_n 0, 1) := by decide +kernel
theorem dX11_endsIn_30 : decode cX11_endsIn 30 = .ok (.getfield 13, 3) := by decide +kernel
theorem dX11_endsIn_33 : decode cX11_endsIn 33 = .ok (.invokestatic 217, 3) := by decide +kernel
theorem dX11_endsIn_36 : decode cX11_endsIn 36 = .ok (.iconst 0, 1) := by decide +kernel
theorem dX11_endsIn_37 : decode cX11_endsIn 37 = .ok (.istore_n 2, 1) := by decide +kernel
theorem dX11_endsIn_38 : decode cX11_endsIn 38 = .ok (.aload_n 0, 1) := by decide +kernel
theorem dX11_endsIn_39 : decode cX11_endsIn 39 = .ok (.getfield 13, 3) := by decide +kernel
theorem dX11_endsIn_42 : decode cX11_endsIn 42 = .ok (.iload_n 1, 1) := by decide +kernel
theorem dX11_endsIn_43 : decode cX11_endsIn 43 = .ok (.invokestatic 64, 3) := by decide +kernel
theorem dX11_endsIn_46 : decode cX11_endsIn 46 = .ok (.ifCond .eq 17, 3) := by decide +kernel
theorem dX11_endsIn_49 : decode cX11_endsIn 49 = .ok (.aload_n 0, 1) := by decide +kernel
theorem dX11_endsIn_50 : decode cX11_endsIn 50 = .ok (.getfield 13, 3) := by decide +kernel
theorem dX11_endsIn_53 : decode cX11_endsIn 53 = .ok (.invokestatic 108, 3) := by decide +kernel
theorem dX11_endsIn_56 : decode cX11_endsIn 56 = .ok (.istore_n 3, 1) := by decide +kernel
theorem dX11_endsIn_57 : decode cX11_endsIn 57 = .ok (.iinc 2 1, 3) := by decide +kernel
theorem dX11_endsIn_60 : decode cX11_endsIn 60 = .ok (.goto (-22), 3) := by decide +kernel
theorem dX11_endsIn_63 : decode cX11_endsIn 63 = .ok (.iload_n 2, 1) := by decide +kernel
theorem dX11_endsIn_64 : decode cX11_endsIn 64 = .ok (.ireturn, 1) := by decide +kernel
theorem dX11_countLetters_0 : decode cX11_countLetters 0 = .ok (.iconst 0, 1) := by decide +kernel
theorem dX11_countLetters_1 : decode cX11_countLetters 1 = .ok (.istore_n 1, 1) := by decide +kernel
theorem dX11_countLetters_2 : decode cX11_countLetters 2 = .ok (.iload_n 1, 1) := by decide +kernel
theorem dX11_countLetters_3 : decode cX11_countLetters 3 = .ok (.bipush 26, 2) := by decide +kernel
theorem dX11_countLetters_5 : decode cX11_countLetters 5 = .ok (.if_icmp .ge 116, 3) := by decide +kernel
theorem dX11_countLetters_8 : decode cX11_countLetters 8 = .ok (.aload_n 0, 1) := by decide +kernel
theorem dX11_countLetters_9 : decode cX11_countLetters 9 = .ok (.getfield 29, 3) := by decide +kernel
theorem dX11_countLetters_12 : decode cX11_countLetters 12 = .ok (.iload_n 1, 1) := by decide +kernel
theorem dX11_countLetters_13 : decode cX11_countLetters 13 = .ok (.iconst 0, 1) := by decide +kernel
theorem dX11_countLetters_14 : decode cX11_countLetters 14 = .ok (.iastore, 1) := by decide +kernel
theorem dX11_countLetters_15 : decode cX11_countLetters 15 = .ok (.iconst 0, 1) := by decide +kernel
theorem dX11_countLetters_16 : decode cX11_countLetters 16 = .ok (.istore_n 2, 1) := by decide +kernel
theorem dX11_countLetters_17 : decode cX11_countLetters 17 = .ok (.iload_n 2, 1) := by decide +kernel
theorem dX11_countLetters_18 : decode cX11_countLetters 18 = .ok (.aload_n 0, 1) := by decide +kernel
theorem dX11_countLetters_19 : decode cX11_countLetters 19 = .ok (.getfield 7, 3) := by decide +kernel
theorem dX11_countLetters_22 : decode cX11_countLetters 22 = .ok (.sipush 381, 3) := by decide +kernel
theorem dX11_countLetters_25 : decode cX11_countLetters 25 = .ok (.iaload, 1) := by decide +kernel
theorem dX11_countLetters_26 : decode cX11_countLetters 26 = .ok (.if_icmp .ge 89, 3) := by decide +kernel
theorem dX11_countLetters_29 : decode cX11_countLetters 29 = .ok (.iconst 0, 1) := by decide +kernel
theorem dX11_countLetters_30 : decode cX11_countLetters 30 = .ok (.istore_n 3, 1) := by decide +kernel
theorem dX11_countLetters_31 : decode cX11_countLetters 31 = .ok (.iconst 0, 1) := by decide +kernel
theorem dX11_countLetters_32 : decode cX11_countLetters 32 = .ok (.istore 4, 2) := by decide +kernel
theorem dX11_countLetters_34 : decode cX11_countLetters 34 = .ok (.iload 4, 2) := by decide +kernel
theorem dX11_countLetters_36 : decode cX11_countLetters 36 = .ok (.aload_n 0, 1) := by decide +kernel
theorem dX11_countLetters_37 : decode cX11_countLetters 37 = .ok (.getfield 7, 3) := by decide +kernel
theorem dX11_countLetters_40 : decode cX11_countLetters 40 = .ok (.iload_n 2, 1) := by decide +kernel
theorem dX11_countLetters_41 : decode cX11_countLetters 41 = .ok (.invokestatic 61, 3) := by decide +kernel
theorem dX11_countLetters_44 : decode cX11_countLetters 44 = .ok (.iconst 0, 1) := by decide +kernel
theorem dX11_countLetters_45 : decode cX11_countLetters 45 = .ok (.iadd, 1) := by decide +kernel
theorem dX11_countLetters_46 : decode cX11_countLetters 46 = .ok (.iaload, 1) := by decide +kernel
theorem dX11_countLetters_47 : decode cX11_countLetters 47 = .ok (.if_icmp .ge 33, 3) := by decide +kernel
theorem dX11_countLetters_50 : decode cX11_countLetters 50 = .ok (.iload_n 3, 1) := by decide +kernel
theorem dX11_countLetters_51 : decode cX11_countLetters 51 = .ok (.ifCond .ne 17, 3) := by decide +kernel
theorem dX11_countLetters_54 : decode cX11_countLetters 54 = .ok (.aload_n 0, 1) := by decide +kernel
theorem dX11_countLetters_55 : decode cX11_countLetters 55 = .ok (.getfield 7, 3) := by decide +kernel
theorem dX11_countLetters_58 : decode cX11_countLetters 58 = .ok (.iload_n 2, 1) := by decide +kernel
theorem dX11_countLetters_59 : decode cX11_countLetters 59 = .ok (.iload 4, 2) := by decide +kernel
theorem dX11_countLetters_61 : decode cX11_countLetters 61 = .ok (.invokestatic 243, 3) := by decide +kernel
theorem dX11_countLetters_64 : decode cX11_countLetters 64 = .ok (.iload_n 1, 1) := by decide +kernel
theorem dX11_countLetters_65 : decode cX11_countLetters 65 = .ok (.if_icmp .ne 7, 3) := by decide +kernel
theorem dX11_countLetters_68 : decode cX11_countLetters 68 = .ok (.iconst 1, 1) := by decide +kernel
theorem dX11_countLetters_69 : decode cX11_countLetters 69 = .ok (.goto 4, 3) := by decide +kernel
theorem dX11_countLetters_72 : decode cX11_countLetters 72 = .ok (.iconst 0, 1) := by decide +kernel
theorem dX11_countLetters_73 : decode cX11_countLetters 73 = .ok (.istore_n 3, 1) := by decide +kernel
theorem dX11_countLetters_74 : decode cX11_countLetters 74 = .ok (.iinc 4 1, 3) := by decide +kernel
theorem dX11_countLetters_77 : decode cX11_countLetters 77 = .ok (.goto (-43), 3) := by decide +kernel
theorem dX11_countLetters_80 : decode cX11_countLetters 80 = .ok (.aload_n 0, 1) := by decide +kernel
theorem dX11_countLetters_81 : decode cX11_countLetters 81 = .ok (.getfield 29, 3) := by decide +kernel
theorem dX11_countLetters_84 : decode cX11_countLetters 84 = .ok (.iload_n 1, 1) := by decide +kernel
theorem dX11_countLetters_85 : decode cX11_countLetters 85 = .ok (.dup2, 1) := by decide +kernel
theorem dX11_countLetters_86 : decode cX11_countLetters 86 = .ok (.iaload, 1) := by decide +kernel
theorem dX11_countLetters_87 : decode cX11_countLetters 87 = .ok (.iload_n 3, 1) := by decide +kernel
theorem dX11_countLetters_88 : decode cX11_countLetters 88 = .ok (.ifCond .eq 18, 3) := by decide +kernel
theorem dX11_countLetters_91 : decode cX11_countLetters 91 = .ok (.aload_n 0, 1) := by decide +kernel
theorem dX11_countLetters_92 : decode cX11_countLetters 92 = .ok (.getfield 7, 3) := by decide +kernel
theorem dX11_countLetters_95 : decode cX11_countLetters 95 = .ok (.iload_n 2, 1) := by decide +kernel
theorem dX11_countLetters_96 : decode cX11_countLetters 96 = .ok (.invokestatic 64, 3) := by decide +kernel
theorem dX11_countLetters_99 : decode cX11_countLetters 99 = .ok (.ifCond .eq 7, 3) := by decide +kernel
theorem dX11_countLetters_102 : decode cX11_countLetters 102 = .ok (.iconst 1, 1) := by decide +kernel
theorem dX11_countLetters_103 : decode cX11_countLetters 103 = .ok (.goto 4, 3) := by decide +kernel
theorem dX11_countLetters_106 : decode cX11_countLetters 106 = .ok (.iconst 0, 1) := by decide +kernel
theorem dX11_countLetters_107 : decode cX11_countLetters 107 = .ok (.iadd, 1) := by decide +kernel
theorem dX11_countLetters_108 : decode cX11_countLetters 108 = .ok (.iastore, 1) := by decide +kernel
theorem dX11_countLetters_109 : decode cX11_countLetters 109 = .ok (.iinc 2 1, 3) := by decide +kernel
theorem dX11_countLetters_112 : decode cX11_countLetters 112 = .ok (.goto (-95), 3) := by decide +kernel
theorem dX11_countLetters_115 : decode cX11_countLetters 115 = .ok (.iinc 1 1, 3) := by decide +kernel
theorem dX11_countLetters_118 : decode cX11_countLetters 118 = .ok (.goto (-116), 3) := by decide +kernel
theorem dX11_countLetters_121 : decode cX11_countLetters 121 = .ok (.return_, 1) := by decide +kernel
theorem dX11_bestName_0 : decode cX11_bestName 0 = .ok (.aload_n 0, 1) := by decide +kernel
theorem dX11_bestName_1 : decode cX11_bestName 1 = .ok (.aload_n 0, 1) := by decide +kernel
theorem dX11_bestName_2 : decode cX11_bestName 2 = .ok (.getfield 7, 3) := by decide +kernel
theorem dX11_bestName_5 : decode cX11_bestName 5 = .ok (.iload_n 1, 1) := by decide +kernel
theorem dX11_bestName_6 : decode cX11_bestName 6 = .ok (.iload_n 2, 1) := by decide +kernel
theorem dX11_bestName_7 : decode cX11_bestName 7 = .ok (.invokestatic 262, 3) := by decide +kernel
theorem dX11_bestName_10 : decode cX11_bestName 10 = .ok (.ifCond .ne 7, 3) := by decide +kernel
theorem dX11_bestName_13 : decode cX11_bestName 13 = .ok (.iconst 1, 1) := by decide +kernel
theorem dX11_bestName_14 : decode cX11_bestName 14 = .ok (.goto 20, 3) := by decide +kernel
theorem dX11_bestName_17 : decode cX11_bestName 17 = .ok (.iload_n 3, 1) := by decide +kernel
theorem dX11_bestName_18 : decode cX11_bestName 18 = .ok (.i2l, 1) := by decide +kernel
theorem dX11_bestName_19 : decode cX11_bestName 19 = .ok (.lconst 1, 1) := by decide +kernel
theorem dX11_bestName_20 : decode cX11_bestName 20 = .ok (.ldc2_w 57, 3) := by decide +kernel
theorem dX11_bestName_23 : decode cX11_bestName 23 = .ok (.invokestatic 45, 3) := by decide +kernel
theorem dX11_bestName_26 : decode cX11_bestName 26 = .ok (.ifCond .ne 7, 3) := by decide +kernel
theorem dX11_bestName_29 : decode cX11_bestName 29 = .ok (.iconst 2, 1) := by decide +kernel
theorem dX11_bestName_30 : decode cX11_bestName 30 = .ok (.goto 4, 3) := by decide +kernel
theorem dX11_bestName_33 : decode cX11_bestName 33 = .ok (.iconst 0, 1) := by decide +kernel
theorem dX11_bestName_34 : decode cX11_bestName 34 = .ok (.invokevirtual 120, 3) := by decide +kernel
theorem dX11_bestName_37 : decode cX11_bestName 37 = .ok (.ifCond .eq 5, 3) := by decide +kernel
theorem dX11_bestName_40 : decode cX11_bestName 40 = .ok (.iconst 0, 1) := by decide +kernel
theorem dX11_bestName_41 : decode cX11_bestName 41 = .ok (.ireturn, 1) := by decide +kernel
theorem dX11_bestName_42 : decode cX11_bestName 42 = .ok (.iconst (-1), 1) := by decide +kernel
theorem dX11_bestName_43 : decode cX11_bestName 43 = .ok (.istore 4, 2) := by decide +kernel
theorem dX11_bestName_45 : decode cX11_bestName 45 = .ok (.iconst 0, 1) := by decide +kernel
theorem dX11_bestName_46 : decode cX11_bestName 46 = .ok (.istore 5, 2) := by decide +kernel
theorem dX11_bestName_48 : decode cX11_bestName 48 = .ok (.aload_n 0, 1) := by decide +kernel
theorem dX11_bestName_49 : decode cX11_bestName 49 = .ok (.invokevirtual 265, 3) := by decide +kernel
theorem dX11_bestName_52 : decode cX11_bestName 52 = .ok (.iconst 0, 1) := by decide +kernel
theorem dX11_bestName_53 : decode cX11_bestName 53 = .ok (.istore 6, 2) := by decide +kernel
theorem dX11_bestName_55 : decode cX11_bestName 55 = .ok (.iload 6, 2) := by decide +kernel
theorem dX11_bestName_57 : decode cX11_bestName 57 = .ok (.iload_n 3, 1) := by decide +kernel
theorem dX11_bestName_58 : decode cX11_bestName 58 = .ok (.invokestatic 53, 3) := by decide +kernel
theorem dX11_bestName_61 : decode cX11_bestName 61 = .ok (.if_icmp .ge 89, 3) := by decide +kernel
theorem dX11_bestName_64 : decode cX11_bestName 64 = .ok (.aload_n 0, 1) := by decide +kernel
theorem dX11_bestName_65 : decode cX11_bestName 65 = .ok (.getfield 29, 3) := by decide +kernel
theorem dX11_bestName_68 : decode cX11_bestName 68 = .ok (.iload 6, 2) := by decide +kernel
theorem dX11_bestName_70 : decode cX11_bestName 70 = .ok (.bipush 26, 2) := by decide +kernel
theorem dX11_bestName_72 : decode cX11_bestName 72 = .ok (.irem, 1) := by decide +kernel
theorem dX11_bestName_73 : decode cX11_bestName 73 = .ok (.iaload, 1) := by decide +kernel
theorem dX11_bestName_74 : decode cX11_bestName 74 = .ok (.iload_n 3, 1) := by decide +kernel
theorem dX11_bestName_75 : decode cX11_bestName 75 = .ok (.iconst 2, 1) := by decide +kernel
theorem dX11_bestName_76 : decode cX11_bestName 76 = .ok (.if_icmp .ne 16, 3) := by decide +kernel
theorem dX11_bestName_79 : decode cX11_bestName 79 = .ok (.aload_n 0, 1) := by decide +kernel
theorem dX11_bestName_80 : decode cX11_bestName 80 = .ok (.getfield 29, 3) := by decide +kernel
theorem dX11_bestName_83 : decode cX11_bestName 83 = .ok (.iload 6, 2) := by decide +kernel
theorem dX11_bestName_85 : decode cX11_bestName 85 = .ok (.bipush 26, 2) := by decide +kernel
theorem dX11_bestName_87 : decode cX11_bestName 87 = .ok (.idiv, 1) := by decide +kernel
theorem dX11_bestName_88 : decode cX11_bestName 88 = .ok (.iaload, 1) := by decide +kernel
theorem dX11_bestName_89 : decode cX11_bestName 89 = .ok (.goto 4, 3) := by decide +kernel
theorem dX11_bestName_92 : decode cX11_bestName 92 = .ok (.iconst 0, 1) := by decide +kernel
theorem dX11_bestName_93 : decode cX11_bestName 93 = .ok (.iadd, 1) := by decide +kernel
theorem dX11_bestName_94 : decode cX11_bestName 94 = .ok (.istore 7, 2) := by decide +kernel
theorem dX11_bestName_96 : decode cX11_bestName 96 = .ok (.iload 4, 2) := by decide +kernel
theorem dX11_bestName_98 : decode cX11_bestName 98 = .ok (.iconst (-1), 1) := by decide +kernel
theorem dX11_bestName_99 : decode cX11_bestName 99 = .ok (.if_icmp .eq 10, 3) := by decide +kernel
theorem dX11_bestName_102 : decode cX11_bestName 102 = .ok (.iload 7, 2) := by decide +kernel
theorem dX11_bestName_104 : decode cX11_bestName 104 = .ok (.iload 5, 2) := by decide +kernel
theorem dX11_bestName_106 : decode cX11_bestName 106 = .ok (.if_icmp .ge 7, 3) := by decide +kernel
theorem dX11_bestName_109 : decode cX11_bestName 109 = .ok (.iconst 1, 1) := by decide +kernel
theorem dX11_bestName_110 : decode cX11_bestName 110 = .ok (.goto 4, 3) := by decide +kernel
theorem dX11_bestName_113 : decode cX11_bestName 113 = .ok (.iconst 0, 1) := by decide +kernel
theorem dX11_bestName_114 : decode cX11_bestName 114 = .ok (.istore 8, 2) := by decide +kernel
theorem dX11_bestName_116 : decode cX11_bestName 116 = .ok (.iload 8, 2) := by decide +kernel
theorem dX11_bestName_118 : decode cX11_bestName 118 = .ok (.ifCond .eq 26, 3) := by decide +kernel
theorem dX11_bestName_121 : decode cX11_bestName 121 = .ok (.aload_n 0, 1) := by decide +kernel
theorem dX11_bestName_122 : decode cX11_bestName 122 = .ok (.getfield 7, 3) := by decide +kernel
theorem dX11_bestName_125 : decode cX11_bestName 125 = .ok (.iload_n 1, 1) := by decide +kernel
theorem dX11_bestName_126 : decode cX11_bestName 126 = .ok (.iload_n 2, 1) := by decide +kernel
theorem dX11_bestName_127 : decode cX11_bestName 127 = .ok (.iload_n 3, 1) := by decide +kernel
theorem dX11_bestName_128 : decode cX11_bestName 128 = .ok (.iload 6, 2) := by decide +kernel
theorem dX11_bestName_130 : decode cX11_bestName 130 = .ok (.invokestatic 87, 3) := by decide +kernel
theorem dX11_bestName_133 : decode cX11_bestName 133 = .ok (.ifCond .ne 11, 3) := by decide +kernel
theorem dX11_bestName_136 : decode cX11_bestName 136 = .ok (.iload 6, 2) := by decide +kernel
theorem dX11_bestName_138 : decode cX11_bestName 138 = .ok (.istore 4, 2) := by decide +kernel
theorem dX11_bestName_140 : decode cX11_bestName 140 = .ok (.iload 7, 2) := by decide +kernel
theorem dX11_bestName_142 : decode cX11_bestName 142 = .ok (.istore 5, 2) := by decide +kernel
theorem dX11_bestName_144 : decode cX11_bestName 144 = .ok (.iinc 6 1, 3) := by decide +kernel
theorem dX11_bestName_147 : decode cX11_bestName 147 = .ok (.goto (-92), 3) := by decide +kernel
theorem dX11_bestName_150 : decode cX11_bestName 150 = .ok (.iload 4, 2) := by decide +kernel
theorem dX11_bestName_152 : decode cX11_bestName 152 = .ok (.ireturn, 1) := by decide +kernel
theorem dX11_bestGiver_0 : decode cX11_bestGiver 0 = .ok (.aload_n 0, 1) := by decide +kernel
theorem dX11_bestGiver_1 : decode cX11_bestGiver 1 = .ok (.iconst 0, 1) := by decide +kernel
theorem dX11_bestGiver_2 : decode cX11_bestGiver 2 = .ok (.putfield 39, 3) := by decide +kernel
theorem dX11_bestGiver_5 : decode cX11_bestGiver 5 = .ok (.iconst (-1), 1) := by decide +kernel
theorem dX11_bestGiver_6 : decode cX11_bestGiver 6 = .ok (.istore_n 1, 1) := by decide +kernel
theorem dX11_bestGiver_7 : decode cX11_bestGiver 7 = .ok (.iconst 0, 1) := by decide +kernel
theorem dX11_bestGiver_8 : decode cX11_bestGiver 8 = .ok (.istore_n 2, 1) := by decide +kernel
theorem dX11_bestGiver_9 : decode cX11_bestGiver 9 = .ok (.iload_n 2, 1) := by decide +kernel
theorem dX11_bestGiver_10 : decode cX11_bestGiver 10 = .ok (.aload_n 0, 1) := by decide +kernel
theorem dX11_bestGiver_11 : decode cX11_bestGiver 11 = .ok (.getfield 7, 3) := by decide +kernel
theorem dX11_bestGiver_14 : decode cX11_bestGiver 14 = .ok (.sipush 380, 3) := by decide +kernel
theorem dX11_bestGiver_17 : decode cX11_bestGiver 17 = .ok (.iaload, 1) := by decide +kernel
theorem dX11_bestGiver_18 : decode cX11_bestGiver 18 = .ok (.if_icmp .ge 91, 3) := by decide +kernel
theorem dX11_bestGiver_21 : decode cX11_bestGiver 21 = .ok (.aload_n 0, 1) := by decide +kernel
theorem dX11_bestGiver_22 : decode cX11_bestGiver 22 = .ok (.iload_n 2, 1) := by decide +kernel
theorem dX11_bestGiver_23 : decode cX11_bestGiver 23 = .ok (.iconst 0, 1) := by decide +kernel
theorem dX11_bestGiver_24 : decode cX11_bestGiver 24 = .ok (.invokevirtual 234, 3) := by decide +kernel
theorem dX11_bestGiver_27 : decode cX11_bestGiver 27 = .ok (.istore_n 3, 1) := by decide +kernel
theorem dX11_bestGiver_28 : decode cX11_bestGiver 28 = .ok (.iload_n 1, 1) := by decide +kernel
theorem dX11_bestGiver_29 : decode cX11_bestGiver 29 = .ok (.iconst (-1), 1) := by decide +kernel
theorem dX11_bestGiver_30 : decode cX11_bestGiver 30 = .ok (.if_icmp .ne 7, 3) := by decide +kernel
theorem dX11_bestGiver_33 : decode cX11_bestGiver 33 = .ok (.iconst 1, 1) := by decide +kernel
theorem dX11_bestGiver_34 : decode cX11_bestGiver 34 = .ok (.goto 25, 3) := by decide +kernel
theorem dX11_bestGiver_37 : decode cX11_bestGiver 37 = .ok (.aload_n 0, 1) := by decide +kernel
theorem dX11_bestGiver_38 : decode cX11_bestGiver 38 = .ok (.iload_n 2, 1) := by decide +kernel
theorem dX11_bestGiver_39 : decode cX11_bestGiver 39 = .ok (.iconst 1, 1) := by decide +kernel
theorem dX11_bestGiver_40 : decode cX11_bestGiver 40 = .ok (.invokevirtual 234, 3) := by decide +kernel
theorem dX11_bestGiver_43 : decode cX11_bestGiver 43 = .ok (.aload_n 0, 1) := by decide +kernel
theorem dX11_bestGiver_44 : decode cX11_bestGiver 44 = .ok (.iload_n 1, 1) := by decide +kernel
theorem dX11_bestGiver_45 : decode cX11_bestGiver 45 = .ok (.iconst 0, 1) := by decide +kernel
theorem dX11_bestGiver_46 : decode cX11_bestGiver 46 = .ok (.invokevirtual 234, 3) := by decide +kernel
theorem dX11_bestGiver_49 : decode cX11_bestGiver 49 = .ok (.imul, 1) := by decide +kernel
theorem dX11_bestGiver_50 : decode cX11_bestGiver 50 = .ok (.aload_n 0, 1) := by decide +kernel
theorem dX11_bestGiver_51 : decode cX11_bestGiver 51 = .ok (.iload_n 1, 1) := by decide +kernel
theorem dX11_bestGiver_52 : decode cX11_bestGiver 52 = .ok (.iconst 1, 1) := by decide +kernel
theorem dX11_bestGiver_53 : decode cX11_bestGiver 53 = .ok (.invokevirtual 234, 3) := by decide +kernel
theorem dX11_bestGiver_56 : decode cX11_bestGiver 56 = .ok (.iload_n 3, 1) := by decide +kernel
theorem dX11_bestGiver_57 : decode cX11_bestGiver 57 = .ok (.imul, 1) := by decide +kernel
theorem dX11_bestGiver_58 : decode cX11_bestGiver 58 = .ok (.isub, 1) := by decide +kernel
theorem dX11_bestGiver_59 : decode cX11_bestGiver 59 = .ok (.istore 4, 2) := by decide +kernel
theorem dX11_bestGiver_61 : decode cX11_bestGiver 61 = .ok (.iload 4, 2) := by decide +kernel
theorem dX11_bestGiver_63 : decode cX11_bestGiver 63 = .ok (.ifCond .gt 18, 3) := by decide +kernel
theorem dX11_bestGiver_66 : decode cX11_bestGiver 66 = .ok (.iload 4, 2) := by decide +kernel
theorem dX11_bestGiver_68 : decode cX11_bestGiver 68 = .ok (.ifCond .ne 17, 3) := by decide +kernel
theorem dX11_bestGiver_71 : decode cX11_bestGiver 71 = .ok (.iload_n 3, 1) := by decide +kernel
theorem dX11_bestGiver_72 : decode cX11_bestGiver 72 = .ok (.aload_n 0, 1) := by decide +kernel
theorem dX11_bestGiver_73 : decode cX11_bestGiver 73 = .ok (.iload_n 1, 1) := by decide +kernel
theorem dX11_bestGiver_74 : decode cX11_bestGiver 74 = .ok (.iconst 0, 1) := by decide +kernel
theorem dX11_bestGiver_75 : decode cX11_bestGiver 75 = .ok (.invokevirtual 234, 3) := by decide +kernel
theorem dX11_bestGiver_78 : decode cX11_bestGiver 78 = .ok (.if_icmp .le 7, 3) := by decide +kernel
theorem dX11_bestGiver_81 : decode cX11_bestGiver 81 = .ok (.iconst 1, 1) := by decide +kernel
theorem dX11_bestGiver_82 : decode cX11_bestGiver 82 = .ok (.goto 4, 3) := by decide +kernel
theorem dX11_bestGiver_85 : decode cX11_bestGiver 85 = .ok (.iconst 0, 1) := by decide +kernel
theorem dX11_bestGiver_86 : decode cX11_bestGiver 86 = .ok (.istore 5, 2) := by decide +kernel
theorem dX11_bestGiver_88 : decode cX11_bestGiver 88 = .ok (.iload_n 3, 1) := by decide +kernel
theorem dX11_bestGiver_89 : decode cX11_bestGiver 89 = .ok (.ifCond .le 12, 3) := by decide +kernel
theorem dX11_bestGiver_92 : decode cX11_bestGiver 92 = .ok (.iload 5, 2) := by decide +kernel
theorem dX11_bestGiver_94 : decode cX11_bestGiver 94 = .ok (.ifCond .eq 7, 3) := by decide +kernel
theorem dX11_bestGiver_97 : decode cX11_bestGiver 97 = .ok (.iload_n 2, 1) := by decide +kernel
theorem dX11_bestGiver_98 : decode cX11_bestGiver 98 = .ok (.goto 4, 3) := by decide +kernel
theorem dX11_bestGiver_101 : decode cX11_bestGiver 101 = .ok (.iload_n 1, 1) := by decide +kernel
theorem dX11_bestGiver_102 : decode cX11_bestGiver 102 = .ok (.istore_n 1, 1) := by decide +kernel
theorem dX11_bestGiver_103 : decode cX11_bestGiver 103 = .ok (.iinc 2 1, 3) := by decide +kernel
theorem dX11_bestGiver_106 : decode cX11_bestGiver 106 = .ok (.goto (-97), 3) := by decide +kernel
theorem dX11_bestGiver_109 : decode cX11_bestGiver 109 = .ok (.iload_n 1, 1) := by decide +kernel
theorem dX11_bestGiver_110 : decode cX11_bestGiver 110 = .ok (.ireturn, 1) := by decide +kernel
theorem dX11_mixed_0 : decode cX11_mixed 0 = .ok (.aload_n 0, 1) := by decide +kernel
theorem dX11_mixed_1 : decode cX11_mixed 1 = .ok (.iconst 0, 1) := by decide +kernel
theorem dX11_mixed_2 : decode cX11_mixed 2 = .ok (.putfield 39, 3) := by decide +kernel
theorem dX11_mixed_5 : decode cX11_mixed 5 = .ok (.iconst (-1), 1) := by decide +kernel
theorem dX11_mixed_6 : decode cX11_mixed 6 = .ok (.istore_n 1, 1) := by decide +kernel
theorem dX11_mixed_7 : decode cX11_mixed 7 = .ok (.iconst 0, 1) := by decide +kernel
theorem dX11_mixed_8 : decode cX11_mixed 8 = .ok (.istore_n 2, 1) := by decide +kernel
theorem dX11_mixed_9 : decode cX11_mixed 9 = .ok (.iconst 0, 1) := by decide +kernel
theorem dX11_mixed_10 : decode cX11_mixed 10 = .ok (.istore_n 3, 1) := by decide +kernel
theorem dX11_mixed_11 : decode cX11_mixed 11 = .ok (.iload_n 3, 1) := by decide +kernel
theorem dX11_mixed_12 : decode cX11_mixed 12 = .ok (.aload_n 0, 1) := by decide +kernel
theorem dX11_mixed_13 : decode cX11_mixed 13 = .ok (.getfield 7, 3) := by decide +kernel
theorem dX11_mixed_16 : decode cX11_mixed 16 = .ok (.sipush 380, 3) := by decide +kernel
theorem dX11_mixed_19 : decode cX11_mixed 19 = .ok (.iaload, 1) := by decide +kernel
theorem dX11_mixed_20 : decode cX11_mixed 20 = .ok (.if_icmp .ge 46, 3) := by decide +kernel
theorem dX11_mixed_23 : decode cX11_mixed 23 = .ok (.aload_n 0, 1) := by decide +kernel
theorem dX11_mixed_24 : decode cX11_mixed 24 = .ok (.getfield 7, 3) := by decide +kernel
theorem dX11_mixed_27 : decode cX11_mixed 27 = .ok (.iconst 5, 1) := by decide +kernel
theorem dX11_mixed_28 : decode cX11_mixed 28 = .ok (.iload_n 3, 1) := by decide +kernel
theorem dX11_mixed_29 : decode cX11_mixed 29 = .ok (.imul, 1) := by decide +kernel
theorem dX11_mixed_30 : decode cX11_mixed 30 = .ok (.iconst 3, 1) := by decide +kernel
theorem dX11_mixed_31 : decode cX11_mixed 31 = .ok (.iadd, 1) := by decide +kernel
theorem dX11_mixed_32 : decode cX11_mixed 32 = .ok (.iaload, 1) := by decide +kernel
theorem dX11_mixed_33 : decode cX11_mixed 33 = .ok (.istore 4, 2) := by decide +kernel
theorem dX11_mixed_35 : decode cX11_mixed 35 = .ok (.iload 4, 2) := by decide +kernel
theorem dX11_mixed_37 : decode cX11_mixed 37 = .ok (.iload_n 2, 1) := by decide +kernel
theorem dX11_mixed_38 : decode cX11_mixed 38 = .ok (.if_icmp .le 7, 3) := by decide +kernel
theorem dX11_mixed_41 : decode cX11_mixed 41 = .ok (.iload_n 3, 1) := by decide +kernel
theorem dX11_mixed_42 : decode cX11_mixed 42 = .ok (.goto 4, 3) := by decide +kernel
theorem dX11_mixed_45 : decode cX11_mixed 45 = .ok (.iload_n 1, 1) := by decide +kernel
theorem dX11_mixed_46 : decode cX11_mixed 46 = .ok (.istore_n 1, 1) := by decide +kernel
theorem dX11_mixed_47 : decode cX11_mixed 47 = .ok (.iload 4, 2) := by decide +kernel
theorem dX11_mixed_49 : decode cX11_mixed 49 = .ok (.iload_n 2, 1) := by decide +kernel
theorem dX11_mixed_50 : decode cX11_mixed 50 = .ok (.if_icmp .le 8, 3) := by decide +kernel
theorem dX11_mixed_53 : decode cX11_mixed 53 = .ok (.iload 4, 2) := by decide +kernel
theorem dX11_mixed_55 : decode cX11_mixed 55 = .ok (.goto 4, 3) := by decide +kernel
theorem dX11_mixed_58 : decode cX11_mixed 58 = .ok (.iload_n 2, 1) := by decide +kernel
theorem dX11_mixed_59 : decode cX11_mixed 59 = .ok (.istore_n 2, 1) := by decide +kernel
theorem dX11_mixed_60 : decode cX11_mixed 60 = .ok (.iinc 3 1, 3) := by decide +kernel
theorem dX11_mixed_63 : decode cX11_mixed 63 = .ok (.goto (-52), 3) := by decide +kernel
theorem dX11_mixed_66 : decode cX11_mixed 66 = .ok (.iload_n 1, 1) := by decide +kernel
theorem dX11_mixed_67 : decode cX11_mixed 67 = .ok (.ireturn, 1) := by decide +kernel
theorem dX11_runGive_0 : decode cX11_runGive 0 = .ok (.aload_n 0, 1) := by decide +kernel
theorem dX11_runGive_1 : decode cX11_runGive 1 = .ok (.getfield 13, 3) := by decide +kernel
theorem dX11_runGive_4 : decode cX11_runGive 4 = .ok (.iload_n 1, 1) := by decide +kernel
theorem dX11_runGive_5 : decode cX11_runGive 5 = .ok (.iload_n 2, 1) := by decide +kernel
theorem dX11_runGive_6 : decode cX11_runGive 6 = .ok (.invokestatic 262, 3) := by decide +kernel
theorem dX11_runGive_9 : decode cX11_runGive 9 = .ok (.ifCond .eq 29, 3) := by decide +kernel
theorem dX11_runGive_12 : decode cX11_runGive 12 = .ok (.iconst 1, 1) := by decide +kernel
theorem dX11_runGive_13 : decode cX11_runGive 13 = .ok (.iload_n 3, 1) := by decide +kernel
theorem dX11_runGive_14 : decode cX11_runGive 14 = .ok (.invokestatic 252, 3) := by decide +kernel
theorem dX11_runGive_17 : decode cX11_runGive 17 = .ok (.ifCond .eq 21, 3) := by decide +kernel
theorem dX11_runGive_20 : decode cX11_runGive 20 = .ok (.aload_n 0, 1) := by decide +kernel
theorem dX11_runGive_21 : decode cX11_runGive 21 = .ok (.getfield 13, 3) := by decide +kernel
theorem dX11_runGive_24 : decode cX11_runGive 24 = .ok (.iload_n 1, 1) := by decide +kernel
theorem dX11_runGive_25 : decode cX11_runGive 25 = .ok (.iload_n 2, 1) := by decide +kernel
theorem dX11_runGive_26 : decode cX11_runGive 26 = .ok (.iconst 1, 1) := by decide +kernel
theorem dX11_runGive_27 : decode cX11_runGive 27 = .ok (.iload_n 3, 1) := by decide +kernel
theorem dX11_runGive_28 : decode cX11_runGive 28 = .ok (.invokestatic 167, 3) := by decide +kernel
theorem dX11_runGive_31 : decode cX11_runGive 31 = .ok (.ifCond .ne 7, 3) := by decide +kernel
theorem dX11_runGive_34 : decode cX11_runGive 34 = .ok (.iconst 1, 1) := by decide +kernel
theorem dX11_runGive_35 : decode cX11_runGive 35 = .ok (.goto 4, 3) := by decide +kernel
theorem dX11_runGive_38 : decode cX11_runGive 38 = .ok (.iconst 0, 1) := by decide +kernel
theorem dX11_runGive_39 : decode cX11_runGive 39 = .ok (.ireturn, 1) := by decide +kernel
theorem dX11_runCall_0 : decode cX11_runCall 0 = .ok (.iload_n 1, 1) := by decide +kernel
theorem dX11_runCall_1 : decode cX11_runCall 1 = .ok (.invokestatic 249, 3) := by decide +kernel
theorem dX11_runCall_4 : decode cX11_runCall 4 = .ok (.ifCond .eq 29, 3) := by decide +kernel
theorem dX11_runCall_7 : decode cX11_runCall 7 = .ok (.iconst 1, 1) := by decide +kernel
theorem dX11_runCall_8 : decode cX11_runCall 8 = .ok (.iload_n 2, 1) := by decide +kernel
theorem dX11_runCall_9 : decode cX11_runCall 9 = .ok (.invokestatic 252, 3) := by decide +kernel
theorem dX11_runCall_12 : decode cX11_runCall 12 = .ok (.ifCond .eq 21, 3) := by decide +kernel
theorem dX11_runCall_15 : decode cX11_runCall 15 = .ok (.aload_n 0, 1) := by decide +kernel
theorem dX11_runCall_16 : decode cX11_runCall 16 = .ok (.getfield 13, 3) := by decide +kernel
theorem dX11_runCall_19 : decode cX11_runCall 19 = .ok (.iload_n 1, 1) := by decide +kernel
theorem dX11_runCall_20 : decode cX11_runCall 20 = .ok (.iconst 1, 1) := by decide +kernel
theorem dX11_runCall_21 : decode cX11_runCall 21 = .ok (.iload_n 2, 1) := by decide +kernel
theorem dX11_runCall_22 : decode cX11_runCall 22 = .ok (.invokestatic 173, 3) := by decide +kernel
theorem dX11_runCall_25 : decode cX11_runCall 25 = .ok (.iconst (-1), 1) := by decide +kernel
theorem dX11_runCall_26 : decode cX11_runCall 26 = .ok (.if_icmp .eq 7, 3) := by decide +kernel
theorem dX11_runCall_29 : decode cX11_runCall 29 = .ok (.iconst 1, 1) := by decide +kernel
theorem dX11_runCall_30 : decode cX11_runCall 30 = .ok (.goto 4, 3) := by decide +kernel
theorem dX11_runCall_33 : decode cX11_runCall 33 = .ok (.iconst 0, 1) := by decide +kernel
theorem dX11_runCall_34 : decode cX11_runCall 34 = .ok (.ireturn, 1) := by decide +kernel
theorem dX11_runYears_0 : decode cX11_runYears 0 = .ok (.iload_n 1, 1) := by decide +kernel
theorem dX11_runYears_1 : decode cX11_runYears 1 = .ok (.i2l, 1) := by decide +kernel
theorem dX11_runYears_2 : decode cX11_runYears 2 = .ok (.lconst 1, 1) := by decide +kernel
theorem dX11_runYears_3 : decode cX11_runYears 3 = .ok (.ldc2_w 59, 3) := by decide +kernel
theorem dX11_runYears_6 : decode cX11_runYears 6 = .ok (.invokestatic 45, 3) := by decide +kernel
theorem dX11_runYears_9 : decode cX11_runYears 9 = .ok (.ifCond .eq 29, 3) := by decide +kernel
theorem dX11_runYears_12 : decode cX11_runYears 12 = .ok (.aload_n 0, 1) := by decide +kernel
theorem dX11_runYears_13 : decode cX11_runYears 13 = .ok (.getfield 13, 3) := by decide +kernel
theorem dX11_runYears_16 : decode cX11_runYears 16 = .ok (.iload_n 1, 1) := by decide +kernel
theorem dX11_runYears_17 : decode cX11_runYears 17 = .ok (.invokestatic 187, 3) := by decide +kernel
theorem dX11_runYears_20 : decode cX11_runYears 20 = .ok (.ifCond .eq 18, 3) := by decide +kernel
theorem dX11_runYears_23 : decode cX11_runYears 23 = .ok (.aload_n 0, 1) := by decide +kernel
theorem dX11_runYears_24 : decode cX11_runYears 24 = .ok (.getfield 13, 3) := by decide +kernel
theorem dX11_runYears_27 : decode cX11_runYears 27 = .ok (.iload_n 1, 1) := by decide +kernel
theorem dX11_runYears_28 : decode cX11_runYears 28 = .ok (.invokestatic 190, 3) := by decide +kernel
theorem dX11_runYears_31 : decode cX11_runYears 31 = .ok (.ifCond .lt 7, 3) := by decide +kernel
theorem dX11_runYears_34 : decode cX11_runYears 34 = .ok (.iconst 1, 1) := by decide +kernel
theorem dX11_runYears_35 : decode cX11_runYears 35 = .ok (.goto 4, 3) := by decide +kernel
theorem dX11_runYears_38 : decode cX11_runYears 38 = .ok (.iconst 0, 1) := by decide +kernel
theorem dX11_runYears_39 : decode cX11_runYears 39 = .ok (.ireturn, 1) := by decide +kernel
theorem dX11_runSit_0 : decode cX11_runSit 0 = .ok (.aload_n 0, 1) := by decide +kernel
theorem dX11_runSit_1 : decode cX11_runSit 1 = .ok (.getfield 13, 3) := by decide +kernel
theorem dX11_runSit_4 : decode cX11_runSit 4 = .ok (.iload_n 1, 1) := by decide +kernel
theorem dX11_runSit_5 : decode cX11_runSit 5 = .ok (.invokestatic 164, 3) := by decide +kernel
theorem dX11_runSit_8 : decode cX11_runSit 8 = .ok (.ifCond .eq 42, 3) := by decide +kernel
theorem dX11_runSit_11 : decode cX11_runSit 11 = .ok (.iload_n 2, 1) := by decide +kernel
theorem dX11_runSit_12 : decode cX11_runSit 12 = .ok (.invokestatic 249, 3) := by decide +kernel
theorem dX11_runSit_15 : decode cX11_runSit 15 = .ok (.ifCond .eq 35, 3) := by decide +kernel
theorem dX11_runSit_18 : decode cX11_runSit 18 = .ok (.aload_n 0, 1) := by decide +kernel
theorem dX11_runSit_19 : decode cX11_runSit 19 = .ok (.getfield 13, 3) := by decide +kernel
theorem dX11_runSit_22 : decode cX11_runSit 22 = .ok (.iload_n 1, 1) := by decide +kernel
theorem dX11_runSit_23 : decode cX11_runSit 23 = .ok (.iload_n 2, 1) := by decide +kernel
theorem dX11_runSit_24 : decode cX11_runSit 24 = .ok (.invokestatic 176, 3) := by decide +kernel
theorem dX11_runSit_27 : decode cX11_runSit 27 = .ok (.ifCond .eq 23, 3) := by decide +kernel
theorem dX11_runSit_30 : decode cX11_runSit 30 = .ok (.aload_n 0, 1) := by decide +kernel
theorem dX11_runSit_31 : decode cX11_runSit 31 = .ok (.getfield 13, 3) := by decide +kernel
theorem dX11_runSit_34 : decode cX11_runSit 34 = .ok (.iconst 5, 1) := by decide +kernel
theorem dX11_runSit_35 : decode cX11_runSit 35 = .ok (.iload_n 1, 1) := by decide +kernel
theorem dX11_runSit_36 : decode cX11_runSit 36 = .ok (.imul, 1) := by decide +kernel
theorem dX11_runSit_37 : decode cX11_runSit 37 = .ok (.iconst 2, 1) := by decide +kernel
theorem dX11_runSit_38 : decode cX11_runSit 38 = .ok (.iadd, 1) := by decide +kernel
theorem dX11_runSit_39 : decode cX11_runSit 39 = .ok (.iload_n 2, 1) := by decide +kernel
theorem dX11_runSit_40 : decode cX11_runSit 40 = .ok (.invokestatic 179, 3) := by decide +kernel
theorem dX11_runSit_43 : decode cX11_runSit 43 = .ok (.ifCond .lt 7, 3) := by decide +kernel
theorem dX11_runSit_46 : decode cX11_runSit 46 = .ok (.iconst 1, 1) := by decide +kernel
theorem dX11_runSit_47 : decode cX11_runSit 47 = .ok (.goto 4, 3) := by decide +kernel
theorem dX11_runSit_50 : decode cX11_runSit 50 = .ok (.iconst 0, 1) := by decide +kernel
theorem dX11_runSit_51 : decode cX11_runSit 51 = .ok (.ireturn, 1) := by decide +kernel
theorem dX11_runSet_0 : decode cX11_runSet 0 = .ok (.iload_n 1, 1) := by decide +kernel
theorem dX11_runSet_1 : decode cX11_runSet 1 = .ok (.iload_n 2, 1) := by decide +kernel
theorem dX11_runSet_2 : decode cX11_runSet 2 = .ok (.invokestatic 183, 3) := by decide +kernel
theorem dX11_runSet_5 : decode cX11_runSet 5 = .ok (.ifCond .eq 23, 3) := by decide +kernel
theorem dX11_runSet_8 : decode cX11_runSet 8 = .ok (.aload_n 0, 1) := by decide +kernel
theorem dX11_runSet_9 : decode cX11_runSet 9 = .ok (.getfield 13, 3) := by decide +kernel
theorem dX11_runSet_12 : decode cX11_runSet 12 = .ok (.sipush 386, 3) := by decide +kernel
theorem dX11_runSet_15 : decode cX11_runSet 15 = .ok (.iload_n 1, 1) := by decide +kernel
theorem dX11_runSet_16 : decode cX11_runSet 16 = .ok (.iadd, 1) := by decide +kernel
theorem dX11_runSet_17 : decode cX11_runSet 17 = .ok (.iload_n 2, 1) := by decide +kernel
theorem dX11_runSet_18 : decode cX11_runSet 18 = .ok (.invokestatic 179, 3) := by decide +kernel
theorem dX11_runSet_21 : decode cX11_runSet 21 = .ok (.ifCond .lt 7, 3) := by decide +kernel
theorem dX11_runSet_24 : decode cX11_runSet 24 = .ok (.iconst 1, 1) := by decide +kernel
theorem dX11_runSet_25 : decode cX11_runSet 25 = .ok (.goto 4, 3) := by decide +kernel
theorem dX11_runSet_28 : decode cX11_runSet 28 = .ok (.iconst 0, 1) := by decide +kernel
theorem dX11_runSet_29 : decode cX11_runSet 29 = .ok (.ireturn, 1) := by decide +kernel
theorem dX11_command_0 : decode cX11_command 0 = .ok (.iload_n 1, 1) := by decide +kernel
theorem dX11_command_1 : decode cX11_command 1 = .ok (.sipush 10000, 3) := by decide +kernel
theorem dX11_command_4 : decode cX11_command 4 = .ok (.idiv, 1) := by decide +kernel
theorem dX11_command_5 : decode cX11_command 5 = .ok (.bipush 10, 2) := by decide +kernel
theorem dX11_command_7 : decode cX11_command 7 = .ok (.irem, 1) := by decide +kernel
theorem dX11_command_8 : decode cX11_command 8 = .ok (.istore_n 2, 1) := by decide +kernel
theorem dX11_command_9 : decode cX11_command 9 = .ok (.iload_n 1, 1) := by decide +kernel
theorem dX11_command_10 : decode cX11_command 10 = .ok (.sipush 1000, 3) := by decide +kernel
theorem dX11_command_13 : decode cX11_command 13 = .ok (.idiv, 1) := by decide +kernel
theorem dX11_command_14 : decode cX11_command 14 = .ok (.bipush 10, 2) := by decide +kernel
theorem dX11_command_16 : decode cX11_command 16 = .ok (.irem, 1) := by decide +kernel
theorem dX11_command_17 : decode cX11_command 17 = .ok (.istore_n 3, 1) := by decide +kernel
theorem dX11_command_18 : decode cX11_command 18 = .ok (.iload_n 1, 1) := by decide +kernel
theorem dX11_command_19 : decode cX11_command 19 = .ok (.sipush 1000, 3) := by decide +kernel
theorem dX11_command_22 : decode cX11_command 22 = .ok (.idiv, 1) := by decide +kernel
theorem dX11_command_23 : decode cX11_command 23 = .ok (.bipush 100, 2) := by decide +kernel
theorem dX11_command_25 : decode cX11_command 25 = .ok (.irem, 1) := by decide +kernel
theorem dX11_command_26 : decode cX11_command 26 = .ok (.istore 4, 2) := by decide +kernel
theorem dX11_command_28 : decode cX11_command 28 = .ok (.iload_n 1, 1) := by decide +kernel
theorem dX11_command_29 : decode cX11_command 29 = .ok (.bipush 100, 2) := by decide +kernel
theorem dX11_command_31 : decode cX11_command 31 = .ok (.idiv, 1) := by decide +kernel
theorem dX11_command_32 : decode cX11_command 32 = .ok (.bipush 100, 2) := by decide +kernel
theorem dX11_command_34 : decode cX11_command 34 = .ok (.irem, 1) := by decide +kernel
theorem dX11_command_35 : decode cX11_command 35 = .ok (.istore 5, 2) := by decide +kernel
theorem dX11_command_37 : decode cX11_command 37 = .ok (.iload_n 1, 1) := by decide +kernel
theorem dX11_command_38 : decode cX11_command 38 = .ok (.bipush 10, 2) := by decide +kernel
theorem dX11_command_40 : decode cX11_command 40 = .ok (.idiv, 1) := by decide +kernel
theorem dX11_command_41 : decode cX11_command 41 = .ok (.bipush 100, 2) := by decide +kernel
theorem dX11_command_43 : decode cX11_command 43 = .ok (.irem, 1) := by decide +kernel
theorem dX11_command_44 : decode cX11_command 44 = .ok (.istore 6, 2) := by decide +kernel
theorem dX11_command_46 : decode cX11_command 46 = .ok (.iload_n 1, 1) := by decide +kernel
theorem dX11_command_47 : decode cX11_command 47 = .ok (.bipush 100, 2) := by decide +kernel
theorem dX11_command_49 : decode cX11_command 49 = .ok (.irem, 1) := by decide +kernel
theorem dX11_command_50 : decode cX11_command 50 = .ok (.istore 7, 2) := by decide +kernel
theorem dX11_command_52 : decode cX11_command 52 = .ok (.iload_n 1, 1) := by decide +kernel
theorem dX11_command_53 : decode cX11_command 53 = .ok (.bipush 10, 2) := by decide +kernel
theorem dX11_command_55 : decode cX11_command 55 = .ok (.irem, 1) := by decide +kernel
theorem dX11_command_56 : decode cX11_command 56 = .ok (.istore 8, 2) := by decide +kernel
theorem dX11_command_58 : decode cX11_command 58 = .ok (.iload_n 1, 1) := by decide +kernel
theorem dX11_command_59 : decode cX11_command 59 = .ok (.sipush 10000, 3) := by decide +kernel
theorem dX11_command_62 : decode cX11_command 62 = .ok (.irem, 1) := by decide +kernel
theorem dX11_command_63 : decode cX11_command 63 = .ok (.istore 9, 2) := by decide +kernel
theorem dX11_command_65 : decode cX11_command 65 = .ok (.iload_n 1, 1) := by decide +kernel
theorem dX11_command_66 : decode cX11_command 66 = .ok (.ldc_w 268, 3) := by decide +kernel
theorem dX11_command_69 : decode cX11_command 69 = .ok (.idiv, 1) := by decide +kernel
theorem dX11_command_70 : decode cX11_command 70 = .ok (.tableswitch 337 1 9 #[50, 72, 93, 118, 141, 164, 201, 262, 291], 50) := by decide +kernel
theorem dX11_command_120 : decode cX11_command 120 = .ok (.iload 8, 2) := by decide +kernel
theorem dX11_command_122 : decode cX11_command 122 = .ok (.ifCond .ne 18, 3) := by decide +kernel
theorem dX11_command_125 : decode cX11_command 125 = .ok (.aload_n 0, 1) := by decide +kernel
theorem dX11_command_126 : decode cX11_command 126 = .ok (.iload_n 2, 1) := by decide +kernel
theorem dX11_command_127 : decode cX11_command 127 = .ok (.iload_n 3, 1) := by decide +kernel
theorem dX11_command_128 : decode cX11_command 128 = .ok (.iload 6, 2) := by decide +kernel
theorem dX11_command_130 : decode cX11_command 130 = .ok (.invokevirtual 269, 3) := by decide +kernel
theorem dX11_command_133 : decode cX11_command 133 = .ok (.ifCond .eq 7, 3) := by decide +kernel
theorem dX11_command_136 : decode cX11_command 136 = .ok (.iconst 1, 1) := by decide +kernel
theorem dX11_command_137 : decode cX11_command 137 = .ok (.goto 4, 3) := by decide +kernel
theorem dX11_command_140 : decode cX11_command 140 = .ok (.iconst 0, 1) := by decide +kernel
theorem dX11_command_141 : decode cX11_command 141 = .ok (.ireturn, 1) := by decide +kernel
theorem dX11_command_142 : decode cX11_command 142 = .ok (.iload 7, 2) := by decide +kernel
theorem dX11_command_144 : decode cX11_command 144 = .ok (.ifCond .ne 17, 3) := by decide +kernel
theorem dX11_command_147 : decode cX11_command 147 = .ok (.aload_n 0, 1) := by decide +kernel
theorem dX11_command_148 : decode cX11_command 148 = .ok (.iload_n 2, 1) := by decide +kernel
theorem dX11_command_149 : decode cX11_command 149 = .ok (.iload 5, 2) := by decide +kernel
theorem dX11_command_151 : decode cX11_command 151 = .ok (.invokevirtual 273, 3) := by decide +kernel
theorem dX11_command_154 : decode cX11_command 154 = .ok (.ifCond .eq 7, 3) := by decide +kernel
theorem dX11_command_157 : decode cX11_command 157 = .ok (.iconst 1, 1) := by decide +kernel
theorem dX11_command_158 : decode cX11_command 158 = .ok (.goto 4, 3) := by decide +kernel
theorem dX11_command_161 : decode cX11_command 161 = .ok (.iconst 0, 1) := by decide +kernel
theorem dX11_command_162 : decode cX11_command 162 = .ok (.ireturn, 1) := by decide +kernel
theorem dX11_command_163 : decode cX11_command 163 = .ok (.iload_n 1, 1) := by decide +kernel
theorem dX11_command_164 : decode cX11_command 164 = .ok (.ldc_w 268, 3) := by decide +kernel
theorem dX11_command_167 : decode cX11_command 167 = .ok (.irem, 1) := by decide +kernel
theorem dX11_command_168 : decode cX11_command 168 = .ok (.bipush 10, 2) := by decide +kernel
theorem dX11_command_170 : decode cX11_command 170 = .ok (.if_icmp .ge 16, 3) := by decide +kernel
theorem dX11_command_173 : decode cX11_command 173 = .ok (.aload_n 0, 1) := by decide +kernel
theorem dX11_command_174 : decode cX11_command 174 = .ok (.iload 8, 2) := by decide +kernel
theorem dX11_command_176 : decode cX11_command 176 = .ok (.invokevirtual 276, 3) := by decide +kernel
theorem dX11_command_179 : decode cX11_command 179 = .ok (.ifCond .eq 7, 3) := by decide +kernel
theorem dX11_command_182 : decode cX11_command 182 = .ok (.iconst 1, 1) := by decide +kernel
theorem dX11_command_183 : decode cX11_command 183 = .ok (.goto 4, 3) := by decide +kernel
theorem dX11_command_186 : decode cX11_command 186 = .ok (.iconst 0, 1) := by decide +kernel
theorem dX11_command_187 : decode cX11_command 187 = .ok (.ireturn, 1) := by decide +kernel
theorem dX11_command_188 : decode cX11_command 188 = .ok (.iload 9, 2) := by decide +kernel
theorem dX11_command_190 : decode cX11_command 190 = .ok (.bipush 10, 2) := by decide +kernel
theorem dX11_command_192 : decode cX11_command 192 = .ok (.if_icmp .ge 17, 3) := by decide +kernel
theorem dX11_command_195 : decode cX11_command 195 = .ok (.aload_n 0, 1) := by decide +kernel
theorem dX11_command_196 : decode cX11_command 196 = .ok (.iload_n 2, 1) := by decide +kernel
theorem dX11_command_197 : decode cX11_command 197 = .ok (.iload 8, 2) := by decide +kernel
theorem dX11_command_199 : decode cX11_command 199 = .ok (.invokevirtual 279, 3) := by decide +kernel
theorem dX11_command_202 : decode cX11_command 202 = .ok (.ifCond .eq 7, 3) := by decide +kernel
theorem dX11_command_205 : decode cX11_command 205 = .ok (.iconst 1, 1) := by decide +kernel
theorem dX11_command_206 : decode cX11_command 206 = .ok (.goto 4, 3) := by decide +kernel
theorem dX11_command_209 : decode cX11_command 209 = .ok (.iconst 0, 1) := by decide +kernel
theorem dX11_command_210 : decode cX11_command 210 = .ok (.ireturn, 1) := by decide +kernel
theorem dX11_command_211 : decode cX11_command 211 = .ok (.iload 9, 2) := by decide +kernel
theorem dX11_command_213 : decode cX11_command 213 = .ok (.bipush 10, 2) := by decide +kernel
theorem dX11_command_215 : decode cX11_command 215 = .ok (.if_icmp .ge 17, 3) := by decide +kernel
theorem dX11_command_218 : decode cX11_command 218 = .ok (.aload_n 0, 1) := by decide +kernel
theorem dX11_command_219 : decode cX11_command 219 = .ok (.iload_n 2, 1) := by decide +kernel
theorem dX11_command_220 : decode cX11_command 220 = .ok (.iload 8, 2) := by decide +kernel
theorem dX11_command_222 : decode cX11_command 222 = .ok (.invokevirtual 282, 3) := by decide +kernel
theorem dX11_command_225 : decode cX11_command 225 = .ok (.ifCond .eq 7, 3) := by decide +kernel
theorem dX11_command_228 : decode cX11_command 228 = .ok (.iconst 1, 1) := by decide +kernel
theorem dX11_command_229 : decode cX11_command 229 = .ok (.goto 4, 3) := by decide +kernel
theorem dX11_command_232 : decode cX11_command 232 = .ok (.iconst 0, 1) := by decide +kernel
theorem dX11_command_233 : decode cX11_command 233 = .ok (.ireturn, 1) := by decide +kernel
theorem dX11_command_234 : decode cX11_command 234 = .ok (.iload 9, 2) := by decide +kernel
theorem dX11_command_236 : decode cX11_command 236 = .ok (.bipush 10, 2) := by decide +kernel
theorem dX11_command_238 : decode cX11_command 238 = .ok (.if_icmp .ge 31, 3) := by decide +kernel
theorem dX11_command_241 : decode cX11_command 241 = .ok (.aload_n 0, 1) := by decide +kernel
theorem dX11_command_242 : decode cX11_command 242 = .ok (.getfield 13, 3) := by decide +kernel
theorem dX11_command_245 : decode cX11_command 245 = .ok (.iload_n 2, 1) := by decide +kernel
theorem dX11_command_246 : decode cX11_command 246 = .ok (.invokestatic 164, 3) := by decide +kernel
theorem dX11_command_249 : decode cX11_command 249 = .ok (.ifCond .eq 20, 3) := by decide +kernel
theorem dX11_command_252 : decode cX11_command 252 = .ok (.aload_n 0, 1) := by decide +kernel
theorem dX11_command_253 : decode cX11_command 253 = .ok (.getfield 13, 3) := by decide +kernel
theorem dX11_command_256 : decode cX11_command 256 = .ok (.iload_n 2, 1) := by decide +kernel
theorem dX11_command_257 : decode cX11_command 257 = .ok (.invokestatic 80, 3) := by decide +kernel
theorem dX11_command_260 : decode cX11_command 260 = .ok (.iload 8, 2) := by decide +kernel
theorem dX11_command_262 : decode cX11_command 262 = .ok (.if_icmp .lt 7, 3) := by decide +kernel
theorem dX11_command_265 : decode cX11_command 265 = .ok (.iconst 1, 1) := by decide +kernel
theorem dX11_command_266 : decode cX11_command 266 = .ok (.goto 4, 3) := by decide +kernel
theorem dX11_command_269 : decode cX11_command 269 = .ok (.iconst 0, 1) := by decide +kernel
theorem dX11_command_270 : decode cX11_command 270 = .ok (.ireturn, 1) := by decide +kernel
theorem dX11_command_271 : decode cX11_command 271 = .ok (.iload 8, 2) := by decide +kernel
theorem dX11_command_273 : decode cX11_command 273 = .ok (.ifCond .ne 57, 3) := by decide +kernel
theorem dX11_command_276 : decode cX11_command 276 = .ok (.iload_n 2, 1) := by decide +kernel
theorem dX11_command_277 : decode cX11_command 277 = .ok (.invokestatic 249, 3) := by decide +kernel
theorem dX11_command_280 : decode cX11_command 280 = .ok (.ifCond .eq 50, 3) := by decide +kernel
theorem dX11_command_283 : decode cX11_command 283 = .ok (.iconst 1, 1) := by decide +kernel
theorem dX11_command_284 : decode cX11_command 284 = .ok (.iload 5, 2) := by decide +kernel
theorem dX11_command_286 : decode cX11_command 286 = .ok (.invokestatic 252, 3) := by decide +kernel
theorem dX11_command_289 : decode cX11_command 289 = .ok (.ifCond .eq 41, 3) := by decide +kernel
theorem dX11_command_292 : decode cX11_command 292 = .ok (.aload_n 0, 1) := by decide +kernel
theorem dX11_command_293 : decode cX11_command 293 = .ok (.getfield 13, 3) := by decide +kernel
theorem dX11_command_296 : decode cX11_command 296 = .ok (.iload 6, 2) := by decide +kernel
theorem dX11_command_298 : decode cX11_command 298 = .ok (.bipush 10, 2) := by decide +kernel
theorem dX11_command_300 : decode cX11_command 300 = .ok (.irem, 1) := by decide +kernel
theorem dX11_command_301 : decode cX11_command 301 = .ok (.invokestatic 164, 3) := by decide +kernel
theorem dX11_command_304 : decode cX11_command 304 = .ok (.ifCond .eq 26, 3) := by decide +kernel
theorem dX11_command_307 : decode cX11_command 307 = .ok (.aload_n 0, 1) := by decide +kernel
theorem dX11_command_308 : decode cX11_command 308 = .ok (.getfield 13, 3) := by decide +kernel
theorem dX11_command_311 : decode cX11_command 311 = .ok (.iload_n 2, 1) := by decide +kernel
theorem dX11_command_312 : decode cX11_command 312 = .ok (.iconst 1, 1) := by decide +kernel
theorem dX11_command_313 : decode cX11_command 313 = .ok (.iload 5, 2) := by decide +kernel
theorem dX11_command_315 : decode cX11_command 315 = .ok (.invokestatic 170, 3) := by decide +kernel
theorem dX11_command_318 : decode cX11_command 318 = .ok (.iload 6, 2) := by decide +kernel
theorem dX11_command_320 : decode cX11_command 320 = .ok (.bipush 10, 2) := by decide +kernel
theorem dX11_command_322 : decode cX11_command 322 = .ok (.irem, 1) := by decide +kernel
theorem dX11_command_323 : decode cX11_command 323 = .ok (.if_icmp .ne 7, 3) := by decide +kernel
theorem dX11_command_326 : decode cX11_command 326 = .ok (.iconst 1, 1) := by decide +kernel
theorem dX11_command_327 : decode cX11_command 327 = .ok (.goto 4, 3) := by decide +kernel
theorem dX11_command_330 : decode cX11_command 330 = .ok (.iconst 0, 1) := by decide +kernel
theorem dX11_command_331 : decode cX11_command 331 = .ok (.ireturn, 1) := by decide +kernel
theorem dX11_command_332 : decode cX11_command 332 = .ok (.iload_n 1, 1) := by decide +kernel
theorem dX11_command_333 : decode cX11_command 333 = .ok (.ldc_w 268, 3) := by decide +kernel
theorem dX11_command_336 : decode cX11_command 336 = .ok (.irem, 1) := by decide +kernel
theorem dX11_command_337 : decode cX11_command 337 = .ok (.bipush 100, 2) := by decide +kernel
theorem dX11_command_339 : decode cX11_command 339 = .ok (.if_icmp .ge 20, 3) := by decide +kernel
theorem dX11_command_342 : decode cX11_command 342 = .ok (.aload_n 0, 1) := by decide +kernel
theorem dX11_command_343 : decode cX11_command 343 = .ok (.getfield 13, 3) := by decide +kernel
theorem dX11_command_346 : decode cX11_command 346 = .ok (.iconst 1, 1) := by decide +kernel
theorem dX11_command_347 : decode cX11_command 347 = .ok (.invokestatic 226, 3) := by decide +kernel
theorem dX11_command_350 : decode cX11_command 350 = .ok (.iload 7, 2) := by decide +kernel
theorem dX11_command_352 : decode cX11_command 352 = .ok (.if_icmp .lt 7, 3) := by decide +kernel
theorem dX11_command_355 : decode cX11_command 355 = .ok (.iconst 1, 1) := by decide +kernel
theorem dX11_command_356 : decode cX11_command 356 = .ok (.goto 4, 3) := by decide +kernel
theorem dX11_command_359 : decode cX11_command 359 = .ok (.iconst 0, 1) := by decide +kernel
theorem dX11_command_360 : decode cX11_command 360 = .ok (.ireturn, 1) := by decide +kernel
theorem dX11_command_361 : decode cX11_command 361 = .ok (.iload_n 1, 1) := by decide +kernel
theorem dX11_command_362 : decode cX11_command 362 = .ok (.sipush 1000, 3) := by decide +kernel
theorem dX11_command_365 : decode cX11_command 365 = .ok (.irem, 1) := by decide +kernel
theorem dX11_command_366 : decode cX11_command 366 = .ok (.bipush 10, 2) := by decide +kernel
theorem dX11_command_368 : decode cX11_command 368 = .ok (.if_icmp .ge 37, 3) := by decide +kernel
theorem dX11_command_371 : decode cX11_command 371 = .ok (.aload_n 0, 1) := by decide +kernel
theorem dX11_command_372 : decode cX11_command 372 = .ok (.getfield 13, 3) := by decide +kernel
theorem dX11_command_375 : decode cX11_command 375 = .ok (.iload 4, 2) := by decide +kernel
theorem dX11_command_377 : decode cX11_command 377 = .ok (.invokestatic 238, 3) := by decide +kernel
theorem dX11_command_380 : decode cX11_command 380 = .ok (.ifCond .eq 25, 3) := by decide +kernel
theorem dX11_command_383 : decode cX11_command 383 = .ok (.aload_n 0, 1) := by decide +kernel
theorem dX11_command_384 : decode cX11_command 384 = .ok (.getfield 13, 3) := by decide +kernel
theorem dX11_command_387 : decode cX11_command 387 = .ok (.iload 4, 2) := by decide +kernel
theorem dX11_command_389 : decode cX11_command 389 = .ok (.invokestatic 61, 3) := by decide +kernel
theorem dX11_command_392 : decode cX11_command 392 = .ok (.bipush 6, 2) := by decide +kernel
theorem dX11_command_394 : decode cX11_command 394 = .ok (.iadd, 1) := by decide +kernel
theorem dX11_command_395 : decode cX11_command 395 = .ok (.iaload, 1) := by decide +kernel
theorem dX11_command_396 : decode cX11_command 396 = .ok (.iload 8, 2) := by decide +kernel
theorem dX11_command_398 : decode cX11_command 398 = .ok (.if_icmp .ne 7, 3) := by decide +kernel
theorem dX11_command_401 : decode cX11_command 401 = .ok (.iconst 1, 1) := by decide +kernel
theorem dX11_command_402 : decode cX11_command 402 = .ok (.goto 4, 3) := by decide +kernel
theorem dX11_command_405 : decode cX11_command 405 = .ok (.iconst 0, 1) := by decide +kernel
theorem dX11_command_406 : decode cX11_command 406 = .ok (.ireturn, 1) := by decide +kernel
theorem dX11_command_407 : decode cX11_command 407 = .ok (.iconst 0, 1) := by decide +kernel
theorem dX11_command_408 : decode cX11_command 408 = .ok (.ireturn, 1) := by decide +kernel
theorem dX11_runScript_0 : decode cX11_runScript 0 = .ok (.aload_n 0, 1) := by decide +kernel
theorem dX11_runScript_1 : decode cX11_runScript 1 = .ok (.iload_n 1, 1) := by decide +kernel
theorem dX11_runScript_2 : decode cX11_runScript 2 = .ok (.i2l, 1) := by decide +kernel
theorem dX11_runScript_3 : decode cX11_runScript 3 = .ok (.lconst 1, 1) := by decide +kernel
theorem dX11_runScript_4 : decode cX11_runScript 4 = .ok (.ldc2_w 49, 3) := by decide +kernel
theorem dX11_runScript_7 : decode cX11_runScript 7 = .ok (.invokestatic 45, 3) := by decide +kernel
theorem dX11_runScript_10 : decode cX11_runScript 10 = .ok (.ifCond .eq 24, 3) := by decide +kernel
theorem dX11_runScript_13 : decode cX11_runScript 13 = .ok (.lload_n 2, 1) := by decide +kernel
theorem dX11_runScript_14 : decode cX11_runScript 14 = .ok (.lconst 0, 1) := by decide +kernel
theorem dX11_runScript_15 : decode cX11_runScript 15 = .ok (.bipush 6, 2) := by decide +kernel
theorem dX11_runScript_17 : decode cX11_runScript 17 = .ok (.iload_n 1, 1) := by decide +kernel
theorem dX11_runScript_18 : decode cX11_runScript 18 = .ok (.imul, 1) := by decide +kernel
theorem dX11_runScript_19 : decode cX11_runScript 19 = .ok (.invokestatic 285, 3) := by decide +kernel
theorem dX11_runScript_22 : decode cX11_runScript 22 = .ok (.lconst 1, 1) := by decide +kernel
theorem dX11_runScript_23 : decode cX11_runScript 23 = .ok (.lsub, 1) := by decide +kernel
theorem dX11_runScript_24 : decode cX11_runScript 24 = .ok (.invokestatic 45, 3) := by decide +kernel
theorem dX11_runScript_27 : decode cX11_runScript 27 = .ok (.ifCond .eq 7, 3) := by decide +kernel
theorem dX11_runScript_30 : decode cX11_runScript 30 = .ok (.iconst 0, 1) := by decide +kernel
theorem dX11_runScript_31 : decode cX11_runScript 31 = .ok (.goto 4, 3) := by decide +kernel
theorem dX11_runScript_34 : decode cX11_runScript 34 = .ok (.iconst 1, 1) := by decide +kernel
theorem dX11_runScript_35 : decode cX11_runScript 35 = .ok (.invokevirtual 120, 3) := by decide +kernel
theorem dX11_runScript_38 : decode cX11_runScript 38 = .ok (.ifCond .eq 5, 3) := by decide +kernel
theorem dX11_runScript_41 : decode cX11_runScript 41 = .ok (.iconst 0, 1) := by decide +kernel
theorem dX11_runScript_42 : decode cX11_runScript 42 = .ok (.ireturn, 1) := by decide +kernel
theorem dX11_runScript_43 : decode cX11_runScript 43 = .ok (.aload_n 0, 1) := by decide +kernel
theorem dX11_runScript_44 : decode cX11_runScript 44 = .ok (.getfield 7, 3) := by decide +kernel
theorem dX11_runScript_47 : decode cX11_runScript 47 = .ok (.aload_n 0, 1) := by decide +kernel
theorem dX11_runScript_48 : decode cX11_runScript 48 = .ok (.getfield 13, 3) := by decide +kernel
theorem dX11_runScript_51 : decode cX11_runScript 51 = .ok (.invokestatic 217, 3) := by decide +kernel
theorem dX11_runScript_54 : decode cX11_runScript 54 = .ok (.iconst 0, 1) := by decide +kernel
theorem dX11_runScript_55 : decode cX11_runScript 55 = .ok (.istore 4, 2) := by decide +kernel
theorem dX11_runScript_57 : decode cX11_runScript 57 = .ok (.iload 4, 2) := by decide +kernel
theorem dX11_runScript_59 : decode cX11_runScript 59 = .ok (.iload_n 1, 1) := by decide +kernel
theorem dX11_runScript_60 : decode cX11_runScript 60 = .ok (.if_icmp .ge 38, 3) := by decide +kernel
theorem dX11_runScript_63 : decode cX11_runScript 63 = .ok (.aload_n 0, 1) := by decide +kernel
theorem dX11_runScript_64 : decode cX11_runScript 64 = .ok (.lload_n 2, 1) := by decide +kernel
theorem dX11_runScript_65 : decode cX11_runScript 65 = .ok (.bipush 6, 2) := by decide +kernel
theorem dX11_runScript_67 : decode cX11_runScript 67 = .ok (.iload_n 1, 1) := by decide +kernel
theorem dX11_runScript_68 : decode cX11_runScript 68 = .ok (.iconst 1, 1) := by decide +kernel
theorem dX11_runScript_69 : decode cX11_runScript 69 = .ok (.isub, 1) := by decide +kernel
theorem dX11_runScript_70 : decode cX11_runScript 70 = .ok (.iload 4, 2) := by decide +kernel
theorem dX11_runScript_72 : decode cX11_runScript 72 = .ok (.isub, 1) := by decide +kernel
theorem dX11_runScript_73 : decode cX11_runScript 73 = .ok (.imul, 1) := by decide +kernel
theorem dX11_runScript_74 : decode cX11_runScript 74 = .ok (.invokestatic 285, 3) := by decide +kernel
theorem dX11_runScript_77 : decode cX11_runScript 77 = .ok (.ldiv, 1) := by decide +kernel
theorem dX11_runScript_78 : decode cX11_runScript 78 = .ok (.ldc2_w 289, 3) := by decide +kernel
theorem dX11_runScript_81 : decode cX11_runScript 81 = .ok (.lrem, 1) := by decide +kernel
theorem dX11_runScript_82 : decode cX11_runScript 82 = .ok (.l2i, 1) := by decide +kernel
theorem dX11_runScript_83 : decode cX11_runScript 83 = .ok (.invokevirtual 291, 3) := by decide +kernel
theorem dX11_runScript_86 : decode cX11_runScript 86 = .ok (.ifCond .ne 6, 3) := by decide +kernel
theorem dX11_runScript_89 : decode cX11_runScript 89 = .ok (.iload 4, 2) := by decide +kernel
theorem dX11_runScript_91 : decode cX11_runScript 91 = .ok (.ireturn, 1) := by decide +kernel
theorem dX11_runScript_92 : decode cX11_runScript 92 = .ok (.iinc 4 1, 3) := by decide +kernel
theorem dX11_runScript_95 : decode cX11_runScript 95 = .ok (.goto (-38), 3) := by decide +kernel
theorem dX11_runScript_98 : decode cX11_runScript 98 = .ok (.iconst (-1), 1) := by decide +kernel
theorem dX11_runScript_99 : decode cX11_runScript 99 = .ok (.ireturn, 1) := by decide +kernel
theorem dX11_stir_0 : decode cX11_stir 0 = .ok (.iload_n 1, 1) := by decide +kernel
theorem dX11_stir_1 : decode cX11_stir 1 = .ok (.bipush 16, 2) := by decide +kernel
theorem dX11_stir_3 : decode cX11_stir 3 = .ok (.idiv, 1) := by decide +kernel
theorem dX11_stir_4 : decode cX11_stir 4 = .ok (.istore_n 2, 1) := by decide +kernel
theorem dX11_stir_5 : decode cX11_stir 5 = .ok (.iload_n 1, 1) := by decide +kernel
theorem dX11_stir_6 : decode cX11_stir 6 = .ok (.bipush 16, 2) := by decide +kernel
theorem dX11_stir_8 : decode cX11_stir 8 = .ok (.irem, 1) := by decide +kernel
theorem dX11_stir_9 : decode cX11_stir 9 = .ok (.tableswitch 201 0 13 #[71, 71, 121, 121, 121, 121, 148, 148, 148, 148, 148, 148, 165, 183], 71) := by decide +kernel
theorem dX11_stir_80 : decode cX11_stir 80 = .ok (.aload_n 0, 1) := by decide +kernel
theorem dX11_stir_81 : decode cX11_stir 81 = .ok (.getfield 13, 3) := by decide +kernel
theorem dX11_stir_84 : decode cX11_stir 84 = .ok (.sipush 380, 3) := by decide +kernel
theorem dX11_stir_87 : decode cX11_stir 87 = .ok (.iaload, 1) := by decide +kernel
theorem dX11_stir_88 : decode cX11_stir 88 = .ok (.bipush 12, 2) := by decide +kernel
theorem dX11_stir_90 : decode cX11_stir 90 = .ok (.if_icmp .ge 35, 3) := by decide +kernel
theorem dX11_stir_93 : decode cX11_stir 93 = .ok (.aload_n 0, 1) := by decide +kernel
theorem dX11_stir_94 : decode cX11_stir 94 = .ok (.getfield 13, 3) := by decide +kernel
theorem dX11_stir_97 : decode cX11_stir 97 = .ok (.iload_n 2, 1) := by decide +kernel
theorem dX11_stir_98 : decode cX11_stir 98 = .ok (.bipush 60, 2) := by decide +kernel
theorem dX11_stir_100 : decode cX11_stir 100 = .ok (.irem, 1) := by decide +kernel
theorem dX11_stir_101 : decode cX11_stir 101 = .ok (.iload_n 2, 1) := by decide +kernel
theorem dX11_stir_102 : decode cX11_stir 102 = .ok (.bipush 64, 2) := by decide +kernel
theorem dX11_stir_104 : decode cX11_stir 104 = .ok (.idiv, 1) := by decide +kernel
theorem dX11_stir_105 : decode cX11_stir 105 = .ok (.bipush 6, 2) := by decide +kernel
theorem dX11_stir_107 : decode cX11_stir 107 = .ok (.irem, 1) := by decide +kernel
theorem dX11_stir_108 : decode cX11_stir 108 = .ok (.iload_n 2, 1) := by decide +kernel
theorem dX11_stir_109 : decode cX11_stir 109 = .ok (.sipush 512, 3) := by decide +kernel
theorem dX11_stir_112 : decode cX11_stir 112 = .ok (.idiv, 1) := by decide +kernel
theorem dX11_stir_113 : decode cX11_stir 113 = .ok (.iconst 4, 1) := by decide +kernel
theorem dX11_stir_114 : decode cX11_stir 114 = .ok (.irem, 1) := by decide +kernel
theorem dX11_stir_115 : decode cX11_stir 115 = .ok (.invokestatic 158, 3) := by decide +kernel
theorem dX11_stir_118 : decode cX11_stir 118 = .ok (.ifCond .lt 7, 3) := by decide +kernel
theorem dX11_stir_121 : decode cX11_stir 121 = .ok (.iconst 1, 1) := by decide +kernel
theorem dX11_stir_122 : decode cX11_stir 122 = .ok (.goto 4, 3) := by decide +kernel
theorem dX11_stir_125 : decode cX11_stir 125 = .ok (.iconst 0, 1) := by decide +kernel
theorem dX11_stir_126 : decode cX11_stir 126 = .ok (.istore_n 3, 1) := by decide +kernel
theorem dX11_stir_127 : decode cX11_stir 127 = .ok (.goto 93, 3) := by decide +kernel
theorem dX11_stir_130 : decode cX11_stir 130 = .ok (.aload_n 0, 1) := by decide +kernel
theorem dX11_stir_131 : decode cX11_stir 131 = .ok (.iload_n 2, 1) := by decide +kernel
theorem dX11_stir_132 : decode cX11_stir 132 = .ok (.bipush 12, 2) := by decide +kernel
theorem dX11_stir_134 : decode cX11_stir 134 = .ok (.irem, 1) := by decide +kernel
theorem dX11_stir_135 : decode cX11_stir 135 = .ok (.iload_n 2, 1) := by decide +kernel
theorem dX11_stir_136 : decode cX11_stir 136 = .ok (.bipush 16, 2) := by decide +kernel
theorem dX11_stir_138 : decode cX11_stir 138 = .ok (.idiv, 1) := by decide +kernel
theorem dX11_stir_139 : decode cX11_stir 139 = .ok (.bipush 12, 2) := by decide +kernel
theorem dX11_stir_141 : decode cX11_stir 141 = .ok (.irem, 1) := by decide +kernel
theorem dX11_stir_142 : decode cX11_stir 142 = .ok (.iload_n 2, 1) := by decide +kernel
theorem dX11_stir_143 : decode cX11_stir 143 = .ok (.sipush 256, 3) := by decide +kernel
theorem dX11_stir_146 : decode cX11_stir 146 = .ok (.idiv, 1) := by decide +kernel
theorem dX11_stir_147 : decode cX11_stir 147 = .ok (.bipush 8, 2) := by decide +kernel
theorem dX11_stir_149 : decode cX11_stir 149 = .ok (.irem, 1) := by decide +kernel
theorem dX11_stir_150 : decode cX11_stir 150 = .ok (.invokevirtual 269, 3) := by decide +kernel
theorem dX11_stir_153 : decode cX11_stir 153 = .ok (.istore_n 3, 1) := by decide +kernel
theorem dX11_stir_154 : decode cX11_stir 154 = .ok (.goto 66, 3) := by decide +kernel
theorem dX11_stir_157 : decode cX11_stir 157 = .ok (.aload_n 0, 1) := by decide +kernel
theorem dX11_stir_158 : decode cX11_stir 158 = .ok (.iload_n 2, 1) := by decide +kernel
theorem dX11_stir_159 : decode cX11_stir 159 = .ok (.iconst 4, 1) := by decide +kernel
theorem dX11_stir_160 : decode cX11_stir 160 = .ok (.irem, 1) := by decide +kernel
theorem dX11_stir_161 : decode cX11_stir 161 = .ok (.iload_n 2, 1) := by decide +kernel
theorem dX11_stir_162 : decode cX11_stir 162 = .ok (.iconst 4, 1) := by decide +kernel
theorem dX11_stir_163 : decode cX11_stir 163 = .ok (.idiv, 1) := by decide +kernel
theorem dX11_stir_164 : decode cX11_stir 164 = .ok (.bipush 8, 2) := by decide +kernel
theorem dX11_stir_166 : decode cX11_stir 166 = .ok (.irem, 1) := by decide +kernel
theorem dX11_stir_167 : decode cX11_stir 167 = .ok (.invokevirtual 273, 3) := by decide +kernel
theorem dX11_stir_170 : decode cX11_stir 170 = .ok (.istore_n 3, 1) := by decide +kernel
theorem dX11_stir_171 : decode cX11_stir 171 = .ok (.goto 49, 3) := by decide +kernel
theorem dX11_stir_174 : decode cX11_stir 174 = .ok (.aload_n 0, 1) := by decide +kernel
theorem dX11_stir_175 : decode cX11_stir 175 = .ok (.iload_n 2, 1) := by decide +kernel
theorem dX11_stir_176 : decode cX11_stir 176 = .ok (.bipush 12, 2) := by decide +kernel
theorem dX11_stir_178 : decode cX11_stir 178 = .ok (.irem, 1) := by decide +kernel
theorem dX11_stir_179 : decode cX11_stir 179 = .ok (.iload_n 2, 1) := by decide +kernel
theorem dX11_stir_180 : decode cX11_stir 180 = .ok (.bipush 16, 2) := by decide +kernel
theorem dX11_stir_182 : decode cX11_stir 182 = .ok (.idiv, 1) := by decide +kernel
theorem dX11_stir_183 : decode cX11_stir 183 = .ok (.iconst 4, 1) := by decide +kernel
theorem dX11_stir_184 : decode cX11_stir 184 = .ok (.irem, 1) := by decide +kernel
theorem dX11_stir_185 : decode cX11_stir 185 = .ok (.invokevirtual 279, 3) := by decide +kernel
theorem dX11_stir_188 : decode cX11_stir 188 = .ok (.istore_n 3, 1) := by decide +kernel
theorem dX11_stir_189 : decode cX11_stir 189 = .ok (.goto 31, 3) := by decide +kernel
theorem dX11_stir_192 : decode cX11_stir 192 = .ok (.aload_n 0, 1) := by decide +kernel
theorem dX11_stir_193 : decode cX11_stir 193 = .ok (.iload_n 2, 1) := by decide +kernel
theorem dX11_stir_194 : decode cX11_stir 194 = .ok (.iconst 3, 1) := by decide +kernel
theorem dX11_stir_195 : decode cX11_stir 195 = .ok (.irem, 1) := by decide +kernel
theorem dX11_stir_196 : decode cX11_stir 196 = .ok (.iconst 1, 1) := by decide +kernel
theorem dX11_stir_197 : decode cX11_stir 197 = .ok (.iload_n 2, 1) := by decide +kernel
theorem dX11_stir_198 : decode cX11_stir 198 = .ok (.iconst 4, 1) := by decide +kernel
theorem dX11_stir_199 : decode cX11_stir 199 = .ok (.idiv, 1) := by decide +kernel
theorem dX11_stir_200 : decode cX11_stir 200 = .ok (.iconst 4, 1) := by decide +kernel
theorem dX11_stir_201 : decode cX11_stir 201 = .ok (.irem, 1) := by decide +kernel
theorem dX11_stir_202 : decode cX11_stir 202 = .ok (.iadd, 1) := by decide +kernel
theorem dX11_stir_203 : decode cX11_stir 203 = .ok (.invokevirtual 282, 3) := by decide +kernel
theorem dX11_stir_206 : decode cX11_stir 206 = .ok (.istore_n 3, 1) := by decide +kernel
theorem dX11_stir_207 : decode cX11_stir 207 = .ok (.goto 13, 3) := by decide +kernel
theorem dX11_stir_210 : decode cX11_stir 210 = .ok (.aload_n 0, 1) := by decide +kernel
theorem dX11_stir_211 : decode cX11_stir 211 = .ok (.iconst 1, 1) := by decide +kernel
theorem dX11_stir_212 : decode cX11_stir 212 = .ok (.iload_n 2, 1) := by decide +kernel
theorem dX11_stir_213 : decode cX11_stir 213 = .ok (.iconst 2, 1) := by decide +kernel
theorem dX11_stir_214 : decode cX11_stir 214 = .ok (.irem, 1) := by decide +kernel
theorem dX11_stir_215 : decode cX11_stir 215 = .ok (.iadd, 1) := by decide +kernel
theorem dX11_stir_216 : decode cX11_stir 216 = .ok (.invokevirtual 276, 3) := by decide +kernel
theorem dX11_stir_219 : decode cX11_stir 219 = .ok (.istore_n 3, 1) := by decide +kernel
theorem dX11_stir_220 : decode cX11_stir 220 = .ok (.return_, 1) := by decide +kernel
theorem dX11_simulate_0 : decode cX11_simulate 0 = .ok (.aload_n 0, 1) := by decide +kernel
theorem dX11_simulate_1 : decode cX11_simulate 1 = .ok (.iload_n 3, 1) := by decide +kernel
theorem dX11_simulate_2 : decode cX11_simulate 2 = .ok (.i2l, 1) := by decide +kernel
theorem dX11_simulate_3 : decode cX11_simulate 3 = .ok (.lconst 1, 1) := by decide +kernel
theorem dX11_simulate_4 : decode cX11_simulate 4 = .ok (.ldc2_w 294, 3) := by decide +kernel
theorem dX11_simulate_7 : decode cX11_simulate 7 = .ok (.invokestatic 45, 3) := by decide +kernel
theorem dX11_simulate_10 : decode cX11_simulate 10 = .ok (.ifCond .eq 7, 3) := by decide +kernel
theorem dX11_simulate_13 : decode cX11_simulate 13 = .ok (.iconst 0, 1) := by decide +kernel
theorem dX11_simulate_14 : decode cX11_simulate 14 = .ok (.goto 4, 3) := by decide +kernel
theorem dX11_simulate_17 : decode cX11_simulate 17 = .ok (.iconst 1, 1) := by decide +kernel
theorem dX11_simulate_18 : decode cX11_simulate 18 = .ok (.invokevirtual 120, 3) := by decide +kernel
theorem dX11_simulate_21 : decode cX11_simulate 21 = .ok (.ifCond .eq 5, 3) := by decide +kernel
theorem dX11_simulate_24 : decode cX11_simulate 24 = .ok (.iconst 0, 1) := by decide +kernel
theorem dX11_simulate_25 : decode cX11_simulate 25 = .ok (.ireturn, 1) := by decide +kernel
theorem dX11_simulate_26 : decode cX11_simulate 26 = .ok (.aload_n 0, 1) := by decide +kernel
theorem dX11_simulate_27 : decode cX11_simulate 27 = .ok (.getfield 7, 3) := by decide +kernel
theorem dX11_simulate_30 : decode cX11_simulate 30 = .ok (.aload_n 0, 1) := by decide +kernel
theorem dX11_simulate_31 : decode cX11_simulate 31 = .ok (.getfield 13, 3) := by decide +kernel
theorem dX11_simulate_34 : decode cX11_simulate 34 = .ok (.invokestatic 217, 3) := by decide +kernel
theorem dX11_simulate_37 : decode cX11_simulate 37 = .ok (.lload_n 1, 1) := by decide +kernel
theorem dX11_simulate_38 : decode cX11_simulate 38 = .ok (.lstore 4, 2) := by decide +kernel
theorem dX11_simulate_40 : decode cX11_simulate 40 = .ok (.iconst 0, 1) := by decide +kernel
theorem dX11_simulate_41 : decode cX11_simulate 41 = .ok (.istore 6, 2) := by decide +kernel
theorem dX11_simulate_43 : decode cX11_simulate 43 = .ok (.iload 6, 2) := by decide +kernel
theorem dX11_simulate_45 : decode cX11_simulate 45 = .ok (.iload_n 3, 1) := by decide +kernel
theorem dX11_simulate_46 : decode cX11_simulate 46 = .ok (.if_icmp .ge 31, 3) := by decide +kernel
theorem dX11_simulate_49 : decode cX11_simulate 49 = .ok (.lload 4, 2) := by decide +kernel
theorem dX11_simulate_51 : decode cX11_simulate 51 = .ok (.ldc2_w 296, 3) := by decide +kernel
theorem dX11_simulate_54 : decode cX11_simulate 54 = .ok (.lmul, 1) := by decide +kernel
theorem dX11_simulate_55 : decode cX11_simulate 55 = .ok (.ldc2_w 298, 3) := by decide +kernel
theorem dX11_simulate_58 : decode cX11_simulate 58 = .ok (.ladd, 1) := by decide +kernel
theorem dX11_simulate_59 : decode cX11_simulate 59 = .ok (.lstore 4, 2) := by decide +kernel
theorem dX11_simulate_61 : decode cX11_simulate 61 = .ok (.aload_n 0, 1) := by decide +kernel
theorem dX11_simulate_62 : decode cX11_simulate 62 = .ok (.lload 4, 2) := by decide +kernel
theorem dX11_simulate_64 : decode cX11_simulate 64 = .ok (.bipush 33, 2) := by decide +kernel
theorem dX11_simulate_66 : decode cX11_simulate 66 = .ok (.lushr, 1) := by decide +kernel
theorem dX11_simulate_67 : decode cX11_simulate 67 = .ok (.l2i, 1) := by decide +kernel
theorem dX11_simulate_68 : decode cX11_simulate 68 = .ok (.invokevirtual 300, 3) := by decide +kernel
theorem dX11_simulate_71 : decode cX11_simulate 71 = .ok (.iinc 6 1, 3) := by decide +kernel
theorem dX11_simulate_74 : decode cX11_simulate 74 = .ok (.goto (-31), 3) := by decide +kernel
theorem dX11_simulate_77 : decode cX11_simulate 77 = .ok (.sipush 10000, 3) := by decide +kernel
theorem dX11_simulate_80 : decode cX11_simulate 80 = .ok (.aload_n 0, 1) := by decide +kernel
theorem dX11_simulate_81 : decode cX11_simulate 81 = .ok (.getfield 13, 3) := by decide +kernel
theorem dX11_simulate_84 : decode cX11_simulate 84 = .ok (.iconst 0, 1) := by decide +kernel
theorem dX11_simulate_85 : decode cX11_simulate 85 = .ok (.invokestatic 226, 3) := by decide +kernel
theorem dX11_simulate_88 : decode cX11_simulate 88 = .ok (.aload_n 0, 1) := by decide +kernel
theorem dX11_simulate_89 : decode cX11_simulate 89 = .ok (.getfield 13, 3) := by decide +kernel
theorem dX11_simulate_92 : decode cX11_simulate 92 = .ok (.iconst 1, 1) := by decide +kernel
theorem dX11_simulate_93 : decode cX11_simulate 93 = .ok (.invokestatic 226, 3) := by decide +kernel
theorem dX11_simulate_96 : decode cX11_simulate 96 = .ok (.iadd, 1) := by decide +kernel
theorem dX11_simulate_97 : decode cX11_simulate 97 = .ok (.imul, 1) := by decide +kernel
theorem dX11_simulate_98 : decode cX11_simulate 98 = .ok (.bipush 100, 2) := by decide +kernel
theorem dX11_simulate_100 : decode cX11_simulate 100 = .ok (.aload_n 0, 1) := by decide +kernel
theorem dX11_simulate_101 : decode cX11_simulate 101 = .ok (.getfield 13, 3) := by decide +kernel
theorem dX11_simulate_104 : decode cX11_simulate 104 = .ok (.sipush 380, 3) := by decide +kernel
theorem dX11_simulate_107 : decode cX11_simulate 107 = .ok (.iaload, 1) := by decide +kernel
theorem dX11_simulate_108 : decode cX11_simulate 108 = .ok (.imul, 1) := by decide +kernel
theorem dX11_simulate_109 : decode cX11_simulate 109 = .ok (.iadd, 1) := by decide +kernel
theorem dX11_simulate_110 : decode cX11_simulate 110 = .ok (.aload_n 0, 1) := by decide +kernel
theorem dX11_simulate_111 : decode cX11_simulate 111 = .ok (.getfield 13, 3) := by decide +kernel
theorem dX11_simulate_114 : decode cX11_simulate 114 = .ok (.sipush 383, 3) := by decide +kernel
theorem dX11_simulate_117 : decode cX11_simulate 117 = .ok (.iaload, 1) := by decide +kernel
theorem dX11_simulate_118 : decode cX11_simulate 118 = .ok (.iadd, 1) := by decide +kernel
theorem dX11_simulate_119 : decode cX11_simulate 119 = .ok (.aload_n 0, 1) := by decide +kernel
theorem dX11_simulate_120 : decode cX11_simulate 120 = .ok (.getfield 7, 3) := by decide +kernel
theorem dX11_simulate_123 : decode cX11_simulate 123 = .ok (.sipush 383, 3) := by decide +kernel
theorem dX11_simulate_126 : decode cX11_simulate 126 = .ok (.iaload, 1) := by decide +kernel
theorem dX11_simulate_127 : decode cX11_simulate 127 = .ok (.isub, 1) := by decide +kernel
theorem dX11_simulate_128 : decode cX11_simulate 128 = .ok (.ireturn, 1) := by decide +kernel
theorem dX11_save_0 : decode cX11_save 0 = .ok (.aload_n 0, 1) := by decide +kernel
theorem dX11_save_1 : decode cX11_save 1 = .ok (.iload_n 1, 1) := by decide +kernel
theorem dX11_save_2 : decode cX11_save 2 = .ok (.i2l, 1) := by decide +kernel
theorem dX11_save_3 : decode cX11_save 3 = .ok (.lconst 0, 1) := by decide +kernel
theorem dX11_save_4 : decode cX11_save 4 = .ok (.lconst 1, 1) := by decide +kernel
theorem dX11_save_5 : decode cX11_save 5 = .ok (.invokestatic 45, 3) := by decide +kernel
theorem dX11_save_8 : decode cX11_save 8 = .ok (.ifCond .eq 7, 3) := by decide +kernel
theorem dX11_save_11 : decode cX11_save 11 = .ok (.iconst 0, 1) := by decide +kernel
theorem dX11_save_12 : decode cX11_save 12 = .ok (.goto 4, 3) := by decide +kernel
theorem dX11_save_15 : decode cX11_save 15 = .ok (.iconst 1, 1) := by decide +kernel
theorem dX11_save_16 : decode cX11_save 16 = .ok (.invokevirtual 120, 3) := by decide +kernel
theorem dX11_save_19 : decode cX11_save 19 = .ok (.ifCond .eq 5, 3) := by decide +kernel
theorem dX11_save_22 : decode cX11_save 22 = .ok (.iconst 0, 1) := by decide +kernel
theorem dX11_save_23 : decode cX11_save 23 = .ok (.ireturn, 1) := by decide +kernel
theorem dX11_save_24 : decode cX11_save 24 = .ok (.iconst 0, 1) := by decide +kernel
theorem dX11_save_25 : decode cX11_save 25 = .ok (.istore_n 2, 1) := by decide +kernel
theorem dX11_save_26 : decode cX11_save 26 = .ok (.iload_n 2, 1) := by decide +kernel
theorem dX11_save_27 : decode cX11_save 27 = .ok (.sipush 389, 3) := by decide +kernel
theorem dX11_save_30 : decode cX11_save 30 = .ok (.if_icmp .ge 27, 3) := by decide +kernel
theorem dX11_save_33 : decode cX11_save 33 = .ok (.aload_n 0, 1) := by decide +kernel
theorem dX11_save_34 : decode cX11_save 34 = .ok (.getfield 22, 3) := by decide +kernel
theorem dX11_save_37 : decode cX11_save 37 = .ok (.sipush 389, 3) := by decide +kernel
theorem dX11_save_40 : decode cX11_save 40 = .ok (.iload_n 1, 1) := by decide +kernel
theorem dX11_save_41 : decode cX11_save 41 = .ok (.imul, 1) := by decide +kernel
theorem dX11_save_42 : decode cX11_save 42 = .ok (.iload_n 2, 1) := by decide +kernel
theorem dX11_save_43 : decode cX11_save 43 = .ok (.iadd, 1) := by decide +kernel
theorem dX11_save_44 : decode cX11_save 44 = .ok (.aload_n 0, 1) := by decide +kernel
theorem dX11_save_45 : decode cX11_save 45 = .ok (.getfield 7, 3) := by decide +kernel
theorem dX11_save_48 : decode cX11_save 48 = .ok (.iload_n 2, 1) := by decide +kernel
theorem dX11_save_49 : decode cX11_save 49 = .ok (.iaload, 1) := by decide +kernel
theorem dX11_save_50 : decode cX11_save 50 = .ok (.iastore, 1) := by decide +kernel
theorem dX11_save_51 : decode cX11_save 51 = .ok (.iinc 2 1, 3) := by decide +kernel
theorem dX11_save_54 : decode cX11_save 54 = .ok (.goto (-28), 3) := by decide +kernel
theorem dX11_save_57 : decode cX11_save 57 = .ok (.aload_n 0, 1) := by decide +kernel
theorem dX11_save_58 : decode cX11_save 58 = .ok (.getfield 25, 3) := by decide +kernel
theorem dX11_save_61 : decode cX11_save 61 = .ok (.iload_n 1, 1) := by decide +kernel
theorem dX11_save_62 : decode cX11_save 62 = .ok (.iconst 1, 1) := by decide +kernel
theorem dX11_save_63 : decode cX11_save 63 = .ok (.bastore, 1) := by decide +kernel
theorem dX11_save_64 : decode cX11_save 64 = .ok (.aload_n 0, 1) := by decide +kernel
theorem dX11_save_65 : decode cX11_save 65 = .ok (.getfield 7, 3) := by decide +kernel
theorem dX11_save_68 : decode cX11_save 68 = .ok (.sipush 381, 3) := by decide +kernel
theorem dX11_save_71 : decode cX11_save 71 = .ok (.iaload, 1) := by decide +kernel
theorem dX11_save_72 : decode cX11_save 72 = .ok (.ireturn, 1) := by decide +kernel
theorem dX11_restore_0 : decode cX11_restore 0 = .ok (.aload_n 0, 1) := by decide +kernel
theorem dX11_restore_1 : decode cX11_restore 1 = .ok (.iload_n 1, 1) := by decide +kernel
theorem dX11_restore_2 : decode cX11_restore 2 = .ok (.i2l, 1) := by decide +kernel
theorem dX11_restore_3 : decode cX11_restore 3 = .ok (.lconst 0, 1) := by decide +kernel
theorem dX11_restore_4 : decode cX11_restore 4 = .ok (.lconst 1, 1) := by decide +kernel
theorem dX11_restore_5 : decode cX11_restore 5 = .ok (.invokestatic 45, 3) := by decide +kernel
theorem dX11_restore_8 : decode cX11_restore 8 = .ok (.ifCond .ne 7, 3) := by decide +kernel
theorem dX11_restore_11 : decode cX11_restore 11 = .ok (.iconst 1, 1) := by decide +kernel
theorem dX11_restore_12 : decode cX11_restore 12 = .ok (.goto 17, 3) := by decide +kernel
theorem dX11_restore_15 : decode cX11_restore 15 = .ok (.aload_n 0, 1) := by decide +kernel
theorem dX11_restore_16 : decode cX11_restore 16 = .ok (.getfield 25, 3) := by decide +kernel
theorem dX11_restore_19 : decode cX11_restore 19 = .ok (.iload_n 1, 1) := by decide +kernel
theorem dX11_restore_20 : decode cX11_restore 20 = .ok (.baload, 1) := by decide +kernel
theorem dX11_restore_21 : decode cX11_restore 21 = .ok (.ifCond .ne 7, 3) := by decide +kernel
theorem dX11_restore_24 : decode cX11_restore 24 = .ok (.iconst 2, 1) := by decide +kernel
theorem dX11_restore_25 : decode cX11_restore 25 = .ok (.goto 4, 3) := by decide +kernel
theorem dX11_restore_28 : decode cX11_restore 28 = .ok (.iconst 0, 1) := by decide +kernel
theorem dX11_restore_29 : decode cX11_restore 29 = .ok (.invokevirtual 120, 3) := by decide +kernel
theorem dX11_restore_32 : decode cX11_restore 32 = .ok (.ifCond .eq 5, 3) := by decide +kernel
theorem dX11_restore_35 : decode cX11_restore 35 = .ok (.iconst 0, 1) := by decide +kernel
theorem dX11_restore_36 : decode cX11_restore 36 = .ok (.ireturn, 1) := by decide +kernel
theorem dX11_restore_37 : decode cX11_restore 37 = .ok (.iconst 0, 1) := by decide +kernel
theorem dX11_restore_38 : decode cX11_restore 38 = .ok (.istore_n 2, 1) := by decide +kernel
theorem dX11_restore_39 : decode cX11_restore 39 = .ok (.iload_n 2, 1) := by decide +kernel
theorem dX11_restore_40 : decode cX11_restore 40 = .ok (.sipush 389, 3) := by decide +kernel
theorem dX11_restore_43 : decode cX11_restore 43 = .ok (.if_icmp .ge 27, 3) := by decide +kernel
theorem dX11_restore_46 : decode cX11_restore 46 = .ok (.aload_n 0, 1) := by decide +kernel
theorem dX11_restore_47 : decode cX11_restore 47 = .ok (.getfield 7, 3) := by decide +kernel
theorem dX11_restore_50 : decode cX11_restore 50 = .ok (.iload_n 2, 1) := by decide +kernel
theorem dX11_restore_51 : decode cX11_restore 51 = .ok (.aload_n 0, 1) := by decide +kernel
theorem dX11_restore_52 : decode cX11_restore 52 = .ok (.getfield 22, 3) := by decide +kernel
theorem dX11_restore_55 : decode cX11_restore 55 = .ok (.sipush 389, 3) := by decide +kernel
theorem dX11_restore_58 : decode cX11_restore 58 = .ok (.iload_n 1, 1) := by decide +kernel
theorem dX11_restore_59 : decode cX11_restore 59 = .ok (.imul, 1) := by decide +kernel
theorem dX11_restore_60 : decode cX11_restore 60 = .ok (.iload_n 2, 1) := by decide +kernel
theorem dX11_restore_61 : decode cX11_restore 61 = .ok (.iadd, 1) := by decide +kernel
theorem dX11_restore_62 : decode cX11_restore 62 = .ok (.iaload, 1) := by decide +kernel
theorem dX11_restore_63 : decode cX11_restore 63 = .ok (.iastore, 1) := by decide +kernel
theorem dX11_restore_64 : decode cX11_restore 64 = .ok (.iinc 2 1, 3) := by decide +kernel
theorem dX11_restore_67 : decode cX11_restore 67 = .ok (.goto (-28), 3) := by decide +kernel
theorem dX11_restore_70 : decode cX11_restore 70 = .ok (.aload_n 0, 1) := by decide +kernel
theorem dX11_restore_71 : decode cX11_restore 71 = .ok (.iconst 0, 1) := by decide +kernel
theorem dX11_restore_72 : decode cX11_restore 72 = .ok (.putfield 112, 3) := by decide +kernel
theorem dX11_restore_75 : decode cX11_restore 75 = .ok (.aload_n 0, 1) := by decide +kernel
theorem dX11_restore_76 : decode cX11_restore 76 = .ok (.getfield 7, 3) := by decide +kernel
theorem dX11_restore_79 : decode cX11_restore 79 = .ok (.sipush 381, 3) := by decide +kernel
theorem dX11_restore_82 : decode cX11_restore 82 = .ok (.iaload, 1) := by decide +kernel
theorem dX11_restore_83 : decode cX11_restore 83 = .ok (.ireturn, 1) := by decide +kernel
