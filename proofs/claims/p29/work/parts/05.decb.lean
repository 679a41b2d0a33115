theorem dX10_init_0 : decode cX10_init 0 = .ok (.aload_n 0, 1) := by decide +kernel
theorem dX10_init_1 : decode cX10_init 1 = .ok (.invokespecial 3, 3) := by decide +kernel
theorem dX10_init_4 : decode cX10_init 4 = .ok (.aload_n 0, 1) := by decide +kernel
theorem dX10_init_5 : decode cX10_init 5 = .ok (.new 9, 3) := by decide +kernel
theorem dX10_init_8 : decode cX10_init 8 = .ok (.dup, 1) := by decide +kernel
theorem dX10_init_9 : decode cX10_init 9 = .ok (.invokespecial 11, 3) := by decide +kernel
theorem dX10_init_12 : decode cX10_init 12 = .ok (.putfield 12, 3) := by decide +kernel
theorem dX10_init_15 : decode cX10_init 15 = .ok (.aload_n 0, 1) := by decide +kernel
theorem dX10_init_16 : decode cX10_init 16 = .ok (.new 16, 3) := by decide +kernel
theorem dX10_init_19 : decode cX10_init 19 = .ok (.dup, 1) := by decide +kernel
theorem dX10_init_20 : decode cX10_init 20 = .ok (.invokespecial 18, 3) := by decide +kernel
theorem dX10_init_23 : decode cX10_init 23 = .ok (.putfield 19, 3) := by decide +kernel
theorem dX10_init_26 : decode cX10_init 26 = .ok (.aload_n 0, 1) := by decide +kernel
theorem dX10_init_27 : decode cX10_init 27 = .ok (.new 16, 3) := by decide +kernel
theorem dX10_init_30 : decode cX10_init 30 = .ok (.dup, 1) := by decide +kernel
theorem dX10_init_31 : decode cX10_init 31 = .ok (.invokespecial 18, 3) := by decide +kernel
theorem dX10_init_34 : decode cX10_init 34 = .ok (.putfield 23, 3) := by decide +kernel
theorem dX10_init_37 : decode cX10_init 37 = .ok (.aload_n 0, 1) := by decide +kernel
theorem dX10_init_38 : decode cX10_init 38 = .ok (.new 26, 3) := by decide +kernel
theorem dX10_init_41 : decode cX10_init 41 = .ok (.dup, 1) := by decide +kernel
theorem dX10_init_42 : decode cX10_init 42 = .ok (.invokespecial 28, 3) := by decide +kernel
theorem dX10_init_45 : decode cX10_init 45 = .ok (.putfield 29, 3) := by decide +kernel
theorem dX10_init_48 : decode cX10_init 48 = .ok (.aload_n 0, 1) := by decide +kernel
theorem dX10_init_49 : decode cX10_init 49 = .ok (.new 33, 3) := by decide +kernel
theorem dX10_init_52 : decode cX10_init 52 = .ok (.dup, 1) := by decide +kernel
theorem dX10_init_53 : decode cX10_init 53 = .ok (.invokespecial 35, 3) := by decide +kernel
theorem dX10_init_56 : decode cX10_init 56 = .ok (.putfield 36, 3) := by decide +kernel
theorem dX10_init_59 : decode cX10_init 59 = .ok (.aload_n 0, 1) := by decide +kernel
theorem dX10_init_60 : decode cX10_init 60 = .ok (.new 40, 3) := by decide +kernel
theorem dX10_init_63 : decode cX10_init 63 = .ok (.dup, 1) := by decide +kernel
theorem dX10_init_64 : decode cX10_init 64 = .ok (.invokespecial 42, 3) := by decide +kernel
theorem dX10_init_67 : decode cX10_init 67 = .ok (.putfield 43, 3) := by decide +kernel
theorem dX10_init_70 : decode cX10_init 70 = .ok (.return_, 1) := by decide +kernel
theorem dX10_append_0 : decode cX10_append 0 = .ok (.iload_n 1, 1) := by decide +kernel
theorem dX10_append_1 : decode cX10_append 1 = .ok (.ifCond .lt 10, 3) := by decide +kernel
theorem dX10_append_4 : decode cX10_append 4 = .ok (.iload_n 1, 1) := by decide +kernel
theorem dX10_append_5 : decode cX10_append 5 = .ok (.sipush 255, 3) := by decide +kernel
theorem dX10_append_8 : decode cX10_append 8 = .ok (.if_icmp .le 13, 3) := by decide +kernel
theorem dX10_append_11 : decode cX10_append 11 = .ok (.new 47, 3) := by decide +kernel
theorem dX10_append_14 : decode cX10_append 14 = .ok (.dup, 1) := by decide +kernel
theorem dX10_append_15 : decode cX10_append 15 = .ok (.ldc 49, 2) := by decide +kernel
theorem dX10_append_17 : decode cX10_append 17 = .ok (.invokespecial 51, 3) := by decide +kernel
theorem dX10_append_20 : decode cX10_append 20 = .ok (.athrow, 1) := by decide +kernel
theorem dX10_append_21 : decode cX10_append 21 = .ok (.aload_n 0, 1) := by decide +kernel
theorem dX10_append_22 : decode cX10_append 22 = .ok (.getfield 12, 3) := by decide +kernel
theorem dX10_append_25 : decode cX10_append 25 = .ok (.getfield 54, 3) := by decide +kernel
theorem dX10_append_28 : decode cX10_append 28 = .ok (.bipush 120, 2) := by decide +kernel
theorem dX10_append_30 : decode cX10_append 30 = .ok (.if_icmp .lt 13, 3) := by decide +kernel
theorem dX10_append_33 : decode cX10_append 33 = .ok (.new 58, 3) := by decide +kernel
theorem dX10_append_36 : decode cX10_append 36 = .ok (.dup, 1) := by decide +kernel
theorem dX10_append_37 : decode cX10_append 37 = .ok (.ldc 60, 2) := by decide +kernel
theorem dX10_append_39 : decode cX10_append 39 = .ok (.invokespecial 62, 3) := by decide +kernel
theorem dX10_append_42 : decode cX10_append 42 = .ok (.athrow, 1) := by decide +kernel
theorem dX10_append_43 : decode cX10_append 43 = .ok (.aload_n 0, 1) := by decide +kernel
theorem dX10_append_44 : decode cX10_append 44 = .ok (.getfield 12, 3) := by decide +kernel
theorem dX10_append_47 : decode cX10_append 47 = .ok (.iload_n 1, 1) := by decide +kernel
theorem dX10_append_48 : decode cX10_append 48 = .ok (.i2c, 1) := by decide +kernel
theorem dX10_append_49 : decode cX10_append 49 = .ok (.invokevirtual 63, 3) := by decide +kernel
theorem dX10_append_52 : decode cX10_append 52 = .ok (.aload_n 0, 1) := by decide +kernel
theorem dX10_append_53 : decode cX10_append 53 = .ok (.getfield 12, 3) := by decide +kernel
theorem dX10_append_56 : decode cX10_append 56 = .ok (.getfield 54, 3) := by decide +kernel
theorem dX10_append_59 : decode cX10_append 59 = .ok (.ireturn, 1) := by decide +kernel
theorem dX10_clearText_0 : decode cX10_clearText 0 = .ok (.aload_n 0, 1) := by decide +kernel
theorem dX10_clearText_1 : decode cX10_clearText 1 = .ok (.getfield 12, 3) := by decide +kernel
theorem dX10_clearText_4 : decode cX10_clearText 4 = .ok (.getfield 54, 3) := by decide +kernel
theorem dX10_clearText_7 : decode cX10_clearText 7 = .ok (.istore_n 1, 1) := by decide +kernel
theorem dX10_clearText_8 : decode cX10_clearText 8 = .ok (.aload_n 0, 1) := by decide +kernel
theorem dX10_clearText_9 : decode cX10_clearText 9 = .ok (.getfield 12, 3) := by decide +kernel
theorem dX10_clearText_12 : decode cX10_clearText 12 = .ok (.iconst 0, 1) := by decide +kernel
theorem dX10_clearText_13 : decode cX10_clearText 13 = .ok (.putfield 54, 3) := by decide +kernel
theorem dX10_clearText_16 : decode cX10_clearText 16 = .ok (.iload_n 1, 1) := by decide +kernel
theorem dX10_clearText_17 : decode cX10_clearText 17 = .ok (.ireturn, 1) := by decide +kernel
theorem dX10_errorPosition_0 : decode cX10_errorPosition 0 = .ok (.aload_n 0, 1) := by decide +kernel
theorem dX10_errorPosition_1 : decode cX10_errorPosition 1 = .ok (.getfield 12, 3) := by decide +kernel
theorem dX10_errorPosition_4 : decode cX10_errorPosition 4 = .ok (.invokevirtual 67, 3) := by decide +kernel
theorem dX10_errorPosition_7 : decode cX10_errorPosition 7 = .ok (.ireturn, 1) := by decide +kernel
theorem dX10_load_0 : decode cX10_load 0 = .ok (.aload_n 0, 1) := by decide +kernel
theorem dX10_load_1 : decode cX10_load 1 = .ok (.getfield 12, 3) := by decide +kernel
theorem dX10_load_4 : decode cX10_load 4 = .ok (.invokevirtual 67, 3) := by decide +kernel
theorem dX10_load_7 : decode cX10_load 7 = .ok (.iconst (-1), 1) := by decide +kernel
theorem dX10_load_8 : decode cX10_load 8 = .ok (.if_icmp .eq 13, 3) := by decide +kernel
theorem dX10_load_11 : decode cX10_load 11 = .ok (.new 58, 3) := by decide +kernel
theorem dX10_load_14 : decode cX10_load 14 = .ok (.dup, 1) := by decide +kernel
theorem dX10_load_15 : decode cX10_load 15 = .ok (.ldc 71, 2) := by decide +kernel
theorem dX10_load_17 : decode cX10_load 17 = .ok (.invokespecial 62, 3) := by decide +kernel
theorem dX10_load_20 : decode cX10_load 20 = .ok (.athrow, 1) := by decide +kernel
theorem dX10_load_21 : decode cX10_load 21 = .ok (.aload_n 0, 1) := by decide +kernel
theorem dX10_load_22 : decode cX10_load 22 = .ok (.getfield 19, 3) := by decide +kernel
theorem dX10_load_25 : decode cX10_load 25 = .ok (.invokevirtual 73, 3) := by decide +kernel
theorem dX10_load_28 : decode cX10_load 28 = .ok (.aload_n 0, 1) := by decide +kernel
theorem dX10_load_29 : decode cX10_load 29 = .ok (.getfield 29, 3) := by decide +kernel
theorem dX10_load_32 : decode cX10_load 32 = .ok (.invokevirtual 76, 3) := by decide +kernel
theorem dX10_load_35 : decode cX10_load 35 = .ok (.aload_n 0, 1) := by decide +kernel
theorem dX10_load_36 : decode cX10_load 36 = .ok (.getfield 36, 3) := by decide +kernel
theorem dX10_load_39 : decode cX10_load 39 = .ok (.invokevirtual 79, 3) := by decide +kernel
theorem dX10_load_42 : decode cX10_load 42 = .ok (.iconst 0, 1) := by decide +kernel
theorem dX10_load_43 : decode cX10_load 43 = .ok (.istore_n 1, 1) := by decide +kernel
theorem dX10_load_44 : decode cX10_load 44 = .ok (.aload_n 0, 1) := by decide +kernel
theorem dX10_load_45 : decode cX10_load 45 = .ok (.getfield 12, 3) := by decide +kernel
theorem dX10_load_48 : decode cX10_load 48 = .ok (.invokevirtual 80, 3) := by decide +kernel
theorem dX10_load_51 : decode cX10_load 51 = .ok (.pop, 1) := by decide +kernel
theorem dX10_load_52 : decode cX10_load 52 = .ok (.iconst 0, 1) := by decide +kernel
theorem dX10_load_53 : decode cX10_load 53 = .ok (.istore_n 2, 1) := by decide +kernel
theorem dX10_load_54 : decode cX10_load 54 = .ok (.iload_n 2, 1) := by decide +kernel
theorem dX10_load_55 : decode cX10_load 55 = .ok (.bipush 120, 2) := by decide +kernel
theorem dX10_load_57 : decode cX10_load 57 = .ok (.if_icmp .ge 36, 3) := by decide +kernel
theorem dX10_load_60 : decode cX10_load 60 = .ok (.aload_n 0, 1) := by decide +kernel
theorem dX10_load_61 : decode cX10_load 61 = .ok (.getfield 12, 3) := by decide +kernel
theorem dX10_load_64 : decode cX10_load 64 = .ok (.invokevirtual 84, 3) := by decide +kernel
theorem dX10_load_67 : decode cX10_load 67 = .ok (.ifCond .eq 26, 3) := by decide +kernel
theorem dX10_load_70 : decode cX10_load 70 = .ok (.aload_n 0, 1) := by decide +kernel
theorem dX10_load_71 : decode cX10_load 71 = .ok (.getfield 19, 3) := by decide +kernel
theorem dX10_load_74 : decode cX10_load 74 = .ok (.aload_n 0, 1) := by decide +kernel
theorem dX10_load_75 : decode cX10_load 75 = .ok (.getfield 12, 3) := by decide +kernel
theorem dX10_load_78 : decode cX10_load 78 = .ok (.invokevirtual 87, 3) := by decide +kernel
theorem dX10_load_81 : decode cX10_load 81 = .ok (.ifCond .ne 6, 3) := by decide +kernel
theorem dX10_load_84 : decode cX10_load 84 = .ok (.iinc 1 1, 3) := by decide +kernel
theorem dX10_load_87 : decode cX10_load 87 = .ok (.iinc 2 1, 3) := by decide +kernel
theorem dX10_load_90 : decode cX10_load 90 = .ok (.goto (-36), 3) := by decide +kernel
theorem dX10_load_93 : decode cX10_load 93 = .ok (.iload_n 1, 1) := by decide +kernel
theorem dX10_load_94 : decode cX10_load 94 = .ok (.ireturn, 1) := by decide +kernel
theorem dX10_about_0 : decode cX10_about 0 = .ok (.iload_n 1, 1) := by decide +kernel
theorem dX10_about_1 : decode cX10_about 1 = .ok (.tableswitch 230 0 14 #[75, 86, 97, 109, 121, 133, 145, 157, 165, 176, 184, 192, 200, 210, 220], 75) := by decide +kernel
theorem dX10_about_76 : decode cX10_about 76 = .ok (.aload_n 0, 1) := by decide +kernel
theorem dX10_about_77 : decode cX10_about 77 = .ok (.getfield 19, 3) := by decide +kernel
theorem dX10_about_80 : decode cX10_about 80 = .ok (.getfield 91, 3) := by decide +kernel
theorem dX10_about_83 : decode cX10_about 83 = .ok (.getfield 95, 3) := by decide +kernel
theorem dX10_about_86 : decode cX10_about 86 = .ok (.ireturn, 1) := by decide +kernel
theorem dX10_about_87 : decode cX10_about 87 = .ok (.aload_n 0, 1) := by decide +kernel
theorem dX10_about_88 : decode cX10_about 88 = .ok (.getfield 19, 3) := by decide +kernel
theorem dX10_about_91 : decode cX10_about 91 = .ok (.getfield 100, 3) := by decide +kernel
theorem dX10_about_94 : decode cX10_about 94 = .ok (.getfield 104, 3) := by decide +kernel
theorem dX10_about_97 : decode cX10_about 97 = .ok (.ireturn, 1) := by decide +kernel
theorem dX10_about_98 : decode cX10_about 98 = .ok (.aload_n 0, 1) := by decide +kernel
theorem dX10_about_99 : decode cX10_about 99 = .ok (.getfield 19, 3) := by decide +kernel
theorem dX10_about_102 : decode cX10_about 102 = .ok (.getfield 100, 3) := by decide +kernel
theorem dX10_about_105 : decode cX10_about 105 = .ok (.iconst 0, 1) := by decide +kernel
theorem dX10_about_106 : decode cX10_about 106 = .ok (.invokevirtual 107, 3) := by decide +kernel
theorem dX10_about_109 : decode cX10_about 109 = .ok (.ireturn, 1) := by decide +kernel
theorem dX10_about_110 : decode cX10_about 110 = .ok (.aload_n 0, 1) := by decide +kernel
theorem dX10_about_111 : decode cX10_about 111 = .ok (.getfield 19, 3) := by decide +kernel
theorem dX10_about_114 : decode cX10_about 114 = .ok (.getfield 100, 3) := by decide +kernel
theorem dX10_about_117 : decode cX10_about 117 = .ok (.iconst 1, 1) := by decide +kernel
theorem dX10_about_118 : decode cX10_about 118 = .ok (.invokevirtual 107, 3) := by decide +kernel
theorem dX10_about_121 : decode cX10_about 121 = .ok (.ireturn, 1) := by decide +kernel
theorem dX10_about_122 : decode cX10_about 122 = .ok (.aload_n 0, 1) := by decide +kernel
theorem dX10_about_123 : decode cX10_about 123 = .ok (.getfield 19, 3) := by decide +kernel
theorem dX10_about_126 : decode cX10_about 126 = .ok (.getfield 100, 3) := by decide +kernel
theorem dX10_about_129 : decode cX10_about 129 = .ok (.iconst 2, 1) := by decide +kernel
theorem dX10_about_130 : decode cX10_about 130 = .ok (.invokevirtual 107, 3) := by decide +kernel
theorem dX10_about_133 : decode cX10_about 133 = .ok (.ireturn, 1) := by decide +kernel
theorem dX10_about_134 : decode cX10_about 134 = .ok (.aload_n 0, 1) := by decide +kernel
theorem dX10_about_135 : decode cX10_about 135 = .ok (.getfield 19, 3) := by decide +kernel
theorem dX10_about_138 : decode cX10_about 138 = .ok (.getfield 100, 3) := by decide +kernel
theorem dX10_about_141 : decode cX10_about 141 = .ok (.iconst 3, 1) := by decide +kernel
theorem dX10_about_142 : decode cX10_about 142 = .ok (.invokevirtual 107, 3) := by decide +kernel
theorem dX10_about_145 : decode cX10_about 145 = .ok (.ireturn, 1) := by decide +kernel
theorem dX10_about_146 : decode cX10_about 146 = .ok (.aload_n 0, 1) := by decide +kernel
theorem dX10_about_147 : decode cX10_about 147 = .ok (.getfield 19, 3) := by decide +kernel
theorem dX10_about_150 : decode cX10_about 150 = .ok (.getfield 100, 3) := by decide +kernel
theorem dX10_about_153 : decode cX10_about 153 = .ok (.iconst 4, 1) := by decide +kernel
theorem dX10_about_154 : decode cX10_about 154 = .ok (.invokevirtual 107, 3) := by decide +kernel
theorem dX10_about_157 : decode cX10_about 157 = .ok (.ireturn, 1) := by decide +kernel
theorem dX10_about_158 : decode cX10_about 158 = .ok (.aload_n 0, 1) := by decide +kernel
theorem dX10_about_159 : decode cX10_about 159 = .ok (.getfield 19, 3) := by decide +kernel
theorem dX10_about_162 : decode cX10_about 162 = .ok (.getfield 111, 3) := by decide +kernel
theorem dX10_about_165 : decode cX10_about 165 = .ok (.ireturn, 1) := by decide +kernel
theorem dX10_about_166 : decode cX10_about 166 = .ok (.aload_n 0, 1) := by decide +kernel
theorem dX10_about_167 : decode cX10_about 167 = .ok (.getfield 19, 3) := by decide +kernel
theorem dX10_about_170 : decode cX10_about 170 = .ok (.getfield 100, 3) := by decide +kernel
theorem dX10_about_173 : decode cX10_about 173 = .ok (.invokevirtual 114, 3) := by decide +kernel
theorem dX10_about_176 : decode cX10_about 176 = .ok (.ireturn, 1) := by decide +kernel
theorem dX10_about_177 : decode cX10_about 177 = .ok (.aload_n 0, 1) := by decide +kernel
theorem dX10_about_178 : decode cX10_about 178 = .ok (.getfield 19, 3) := by decide +kernel
theorem dX10_about_181 : decode cX10_about 181 = .ok (.getfield 117, 3) := by decide +kernel
theorem dX10_about_184 : decode cX10_about 184 = .ok (.ireturn, 1) := by decide +kernel
theorem dX10_about_185 : decode cX10_about 185 = .ok (.aload_n 0, 1) := by decide +kernel
theorem dX10_about_186 : decode cX10_about 186 = .ok (.getfield 19, 3) := by decide +kernel
theorem dX10_about_189 : decode cX10_about 189 = .ok (.getfield 120, 3) := by decide +kernel
theorem dX10_about_192 : decode cX10_about 192 = .ok (.ireturn, 1) := by decide +kernel
theorem dX10_about_193 : decode cX10_about 193 = .ok (.aload_n 0, 1) := by decide +kernel
theorem dX10_about_194 : decode cX10_about 194 = .ok (.getfield 19, 3) := by decide +kernel
theorem dX10_about_197 : decode cX10_about 197 = .ok (.getfield 123, 3) := by decide +kernel
theorem dX10_about_200 : decode cX10_about 200 = .ok (.ireturn, 1) := by decide +kernel
theorem dX10_about_201 : decode cX10_about 201 = .ok (.aload_n 0, 1) := by decide +kernel
theorem dX10_about_202 : decode cX10_about 202 = .ok (.getfield 19, 3) := by decide +kernel
theorem dX10_about_205 : decode cX10_about 205 = .ok (.getfield 126, 3) := by decide +kernel
theorem dX10_about_208 : decode cX10_about 208 = .ok (.iconst 0, 1) := by decide +kernel
theorem dX10_about_209 : decode cX10_about 209 = .ok (.iaload, 1) := by decide +kernel
theorem dX10_about_210 : decode cX10_about 210 = .ok (.ireturn, 1) := by decide +kernel
theorem dX10_about_211 : decode cX10_about 211 = .ok (.aload_n 0, 1) := by decide +kernel
theorem dX10_about_212 : decode cX10_about 212 = .ok (.getfield 19, 3) := by decide +kernel
theorem dX10_about_215 : decode cX10_about 215 = .ok (.getfield 126, 3) := by decide +kernel
theorem dX10_about_218 : decode cX10_about 218 = .ok (.iconst 1, 1) := by decide +kernel
theorem dX10_about_219 : decode cX10_about 219 = .ok (.iaload, 1) := by decide +kernel
theorem dX10_about_220 : decode cX10_about 220 = .ok (.ireturn, 1) := by decide +kernel
theorem dX10_about_221 : decode cX10_about 221 = .ok (.aload_n 0, 1) := by decide +kernel
theorem dX10_about_222 : decode cX10_about 222 = .ok (.getfield 19, 3) := by decide +kernel
theorem dX10_about_225 : decode cX10_about 225 = .ok (.getfield 126, 3) := by decide +kernel
theorem dX10_about_228 : decode cX10_about 228 = .ok (.iconst 2, 1) := by decide +kernel
theorem dX10_about_229 : decode cX10_about 229 = .ok (.iaload, 1) := by decide +kernel
theorem dX10_about_230 : decode cX10_about 230 = .ok (.ireturn, 1) := by decide +kernel
theorem dX10_about_231 : decode cX10_about 231 = .ok (.new 47, 3) := by decide +kernel
theorem dX10_about_234 : decode cX10_about 234 = .ok (.dup, 1) := by decide +kernel
theorem dX10_about_235 : decode cX10_about 235 = .ok (.ldc 130, 2) := by decide +kernel
theorem dX10_about_237 : decode cX10_about 237 = .ok (.invokespecial 51, 3) := by decide +kernel
theorem dX10_about_240 : decode cX10_about 240 = .ok (.athrow, 1) := by decide +kernel
theorem dX10_personOf_0 : decode cX10_personOf 0 = .ok (.aload_n 0, 1) := by decide +kernel
theorem dX10_personOf_1 : decode cX10_personOf 1 = .ok (.iload_n 1, 1) := by decide +kernel
theorem dX10_personOf_2 : decode cX10_personOf 2 = .ok (.invokevirtual 132, 3) := by decide +kernel
theorem dX10_personOf_5 : decode cX10_personOf 5 = .ok (.iload_n 2, 1) := by decide +kernel
theorem dX10_personOf_6 : decode cX10_personOf 6 = .ok (.tableswitch 163 0 8 #[50, 63, 76, 89, 101, 113, 125, 137, 150], 50) := by decide +kernel
theorem dX10_personOf_56 : decode cX10_personOf 56 = .ok (.aload_n 0, 1) := by decide +kernel
theorem dX10_personOf_57 : decode cX10_personOf 57 = .ok (.getfield 19, 3) := by decide +kernel
theorem dX10_personOf_60 : decode cX10_personOf 60 = .ok (.getfield 91, 3) := by decide +kernel
theorem dX10_personOf_63 : decode cX10_personOf 63 = .ok (.getfield 136, 3) := by decide +kernel
theorem dX10_personOf_66 : decode cX10_personOf 66 = .ok (.iload_n 1, 1) := by decide +kernel
theorem dX10_personOf_67 : decode cX10_personOf 67 = .ok (.iaload, 1) := by decide +kernel
theorem dX10_personOf_68 : decode cX10_personOf 68 = .ok (.ireturn, 1) := by decide +kernel
theorem dX10_personOf_69 : decode cX10_personOf 69 = .ok (.aload_n 0, 1) := by decide +kernel
theorem dX10_personOf_70 : decode cX10_personOf 70 = .ok (.getfield 19, 3) := by decide +kernel
theorem dX10_personOf_73 : decode cX10_personOf 73 = .ok (.getfield 91, 3) := by decide +kernel
theorem dX10_personOf_76 : decode cX10_personOf 76 = .ok (.getfield 139, 3) := by decide +kernel
theorem dX10_personOf_79 : decode cX10_personOf 79 = .ok (.iload_n 1, 1) := by decide +kernel
theorem dX10_personOf_80 : decode cX10_personOf 80 = .ok (.iaload, 1) := by decide +kernel
theorem dX10_personOf_81 : decode cX10_personOf 81 = .ok (.ireturn, 1) := by decide +kernel
theorem dX10_personOf_82 : decode cX10_personOf 82 = .ok (.aload_n 0, 1) := by decide +kernel
theorem dX10_personOf_83 : decode cX10_personOf 83 = .ok (.getfield 19, 3) := by decide +kernel
theorem dX10_personOf_86 : decode cX10_personOf 86 = .ok (.getfield 91, 3) := by decide +kernel
theorem dX10_personOf_89 : decode cX10_personOf 89 = .ok (.getfield 142, 3) := by decide +kernel
theorem dX10_personOf_92 : decode cX10_personOf 92 = .ok (.iload_n 1, 1) := by decide +kernel
theorem dX10_personOf_93 : decode cX10_personOf 93 = .ok (.iaload, 1) := by decide +kernel
theorem dX10_personOf_94 : decode cX10_personOf 94 = .ok (.ireturn, 1) := by decide +kernel
theorem dX10_personOf_95 : decode cX10_personOf 95 = .ok (.aload_n 0, 1) := by decide +kernel
theorem dX10_personOf_96 : decode cX10_personOf 96 = .ok (.getfield 19, 3) := by decide +kernel
theorem dX10_personOf_99 : decode cX10_personOf 99 = .ok (.getfield 100, 3) := by decide +kernel
theorem dX10_personOf_102 : decode cX10_personOf 102 = .ok (.iload_n 1, 1) := by decide +kernel
theorem dX10_personOf_103 : decode cX10_personOf 103 = .ok (.invokevirtual 145, 3) := by decide +kernel
theorem dX10_personOf_106 : decode cX10_personOf 106 = .ok (.ireturn, 1) := by decide +kernel
theorem dX10_personOf_107 : decode cX10_personOf 107 = .ok (.aload_n 0, 1) := by decide +kernel
theorem dX10_personOf_108 : decode cX10_personOf 108 = .ok (.getfield 19, 3) := by decide +kernel
theorem dX10_personOf_111 : decode cX10_personOf 111 = .ok (.getfield 91, 3) := by decide +kernel
theorem dX10_personOf_114 : decode cX10_personOf 114 = .ok (.iload_n 1, 1) := by decide +kernel
theorem dX10_personOf_115 : decode cX10_personOf 115 = .ok (.invokevirtual 148, 3) := by decide +kernel
theorem dX10_personOf_118 : decode cX10_personOf 118 = .ok (.ireturn, 1) := by decide +kernel
theorem dX10_personOf_119 : decode cX10_personOf 119 = .ok (.aload_n 0, 1) := by decide +kernel
theorem dX10_personOf_120 : decode cX10_personOf 120 = .ok (.getfield 19, 3) := by decide +kernel
theorem dX10_personOf_123 : decode cX10_personOf 123 = .ok (.getfield 100, 3) := by decide +kernel
theorem dX10_personOf_126 : decode cX10_personOf 126 = .ok (.iload_n 1, 1) := by decide +kernel
theorem dX10_personOf_127 : decode cX10_personOf 127 = .ok (.invokevirtual 151, 3) := by decide +kernel
theorem dX10_personOf_130 : decode cX10_personOf 130 = .ok (.ireturn, 1) := by decide +kernel
theorem dX10_personOf_131 : decode cX10_personOf 131 = .ok (.aload_n 0, 1) := by decide +kernel
theorem dX10_personOf_132 : decode cX10_personOf 132 = .ok (.getfield 19, 3) := by decide +kernel
theorem dX10_personOf_135 : decode cX10_personOf 135 = .ok (.getfield 100, 3) := by decide +kernel
theorem dX10_personOf_138 : decode cX10_personOf 138 = .ok (.iload_n 1, 1) := by decide +kernel
theorem dX10_personOf_139 : decode cX10_personOf 139 = .ok (.invokevirtual 154, 3) := by decide +kernel
theorem dX10_personOf_142 : decode cX10_personOf 142 = .ok (.ireturn, 1) := by decide +kernel
theorem dX10_personOf_143 : decode cX10_personOf 143 = .ok (.aload_n 0, 1) := by decide +kernel
theorem dX10_personOf_144 : decode cX10_personOf 144 = .ok (.getfield 19, 3) := by decide +kernel
theorem dX10_personOf_147 : decode cX10_personOf 147 = .ok (.getfield 91, 3) := by decide +kernel
theorem dX10_personOf_150 : decode cX10_personOf 150 = .ok (.getfield 157, 3) := by decide +kernel
theorem dX10_personOf_153 : decode cX10_personOf 153 = .ok (.iload_n 1, 1) := by decide +kernel
theorem dX10_personOf_154 : decode cX10_personOf 154 = .ok (.iaload, 1) := by decide +kernel
theorem dX10_personOf_155 : decode cX10_personOf 155 = .ok (.ireturn, 1) := by decide +kernel
theorem dX10_personOf_156 : decode cX10_personOf 156 = .ok (.aload_n 0, 1) := by decide +kernel
theorem dX10_personOf_157 : decode cX10_personOf 157 = .ok (.getfield 19, 3) := by decide +kernel
theorem dX10_personOf_160 : decode cX10_personOf 160 = .ok (.getfield 91, 3) := by decide +kernel
theorem dX10_personOf_163 : decode cX10_personOf 163 = .ok (.getfield 160, 3) := by decide +kernel
theorem dX10_personOf_166 : decode cX10_personOf 166 = .ok (.iload_n 1, 1) := by decide +kernel
theorem dX10_personOf_167 : decode cX10_personOf 167 = .ok (.iaload, 1) := by decide +kernel
theorem dX10_personOf_168 : decode cX10_personOf 168 = .ok (.ireturn, 1) := by decide +kernel
theorem dX10_personOf_169 : decode cX10_personOf 169 = .ok (.new 47, 3) := by decide +kernel
theorem dX10_personOf_172 : decode cX10_personOf 172 = .ok (.dup, 1) := by decide +kernel
theorem dX10_personOf_173 : decode cX10_personOf 173 = .ok (.ldc 163, 2) := by decide +kernel
theorem dX10_personOf_175 : decode cX10_personOf 175 = .ok (.invokespecial 51, 3) := by decide +kernel
theorem dX10_personOf_178 : decode cX10_personOf 178 = .ok (.athrow, 1) := by decide +kernel
theorem dX10_nameOf_0 : decode cX10_nameOf 0 = .ok (.aload_n 0, 1) := by decide +kernel
theorem dX10_nameOf_1 : decode cX10_nameOf 1 = .ok (.iload_n 1, 1) := by decide +kernel
theorem dX10_nameOf_2 : decode cX10_nameOf 2 = .ok (.invokevirtual 165, 3) := by decide +kernel
theorem dX10_nameOf_5 : decode cX10_nameOf 5 = .ok (.iload_n 2, 1) := by decide +kernel
theorem dX10_nameOf_6 : decode cX10_nameOf 6 = .ok (.tableswitch 158 0 7 #[46, 59, 72, 85, 98, 111, 124, 137], 46) := by decide +kernel
theorem dX10_nameOf_52 : decode cX10_nameOf 52 = .ok (.aload_n 0, 1) := by decide +kernel
theorem dX10_nameOf_53 : decode cX10_nameOf 53 = .ok (.getfield 19, 3) := by decide +kernel
theorem dX10_nameOf_56 : decode cX10_nameOf 56 = .ok (.getfield 100, 3) := by decide +kernel
theorem dX10_nameOf_59 : decode cX10_nameOf 59 = .ok (.getfield 168, 3) := by decide +kernel
theorem dX10_nameOf_62 : decode cX10_nameOf 62 = .ok (.iload_n 1, 1) := by decide +kernel
theorem dX10_nameOf_63 : decode cX10_nameOf 63 = .ok (.iaload, 1) := by decide +kernel
theorem dX10_nameOf_64 : decode cX10_nameOf 64 = .ok (.ireturn, 1) := by decide +kernel
theorem dX10_nameOf_65 : decode cX10_nameOf 65 = .ok (.aload_n 0, 1) := by decide +kernel
theorem dX10_nameOf_66 : decode cX10_nameOf 66 = .ok (.getfield 19, 3) := by decide +kernel
theorem dX10_nameOf_69 : decode cX10_nameOf 69 = .ok (.getfield 100, 3) := by decide +kernel
theorem dX10_nameOf_72 : decode cX10_nameOf 72 = .ok (.getfield 171, 3) := by decide +kernel
theorem dX10_nameOf_75 : decode cX10_nameOf 75 = .ok (.iload_n 1, 1) := by decide +kernel
theorem dX10_nameOf_76 : decode cX10_nameOf 76 = .ok (.iaload, 1) := by decide +kernel
theorem dX10_nameOf_77 : decode cX10_nameOf 77 = .ok (.ireturn, 1) := by decide +kernel
theorem dX10_nameOf_78 : decode cX10_nameOf 78 = .ok (.aload_n 0, 1) := by decide +kernel
theorem dX10_nameOf_79 : decode cX10_nameOf 79 = .ok (.getfield 19, 3) := by decide +kernel
theorem dX10_nameOf_82 : decode cX10_nameOf 82 = .ok (.getfield 100, 3) := by decide +kernel
theorem dX10_nameOf_85 : decode cX10_nameOf 85 = .ok (.getfield 174, 3) := by decide +kernel
theorem dX10_nameOf_88 : decode cX10_nameOf 88 = .ok (.iload_n 1, 1) := by decide +kernel
theorem dX10_nameOf_89 : decode cX10_nameOf 89 = .ok (.iaload, 1) := by decide +kernel
theorem dX10_nameOf_90 : decode cX10_nameOf 90 = .ok (.ireturn, 1) := by decide +kernel
theorem dX10_nameOf_91 : decode cX10_nameOf 91 = .ok (.aload_n 0, 1) := by decide +kernel
theorem dX10_nameOf_92 : decode cX10_nameOf 92 = .ok (.getfield 19, 3) := by decide +kernel
theorem dX10_nameOf_95 : decode cX10_nameOf 95 = .ok (.getfield 100, 3) := by decide +kernel
theorem dX10_nameOf_98 : decode cX10_nameOf 98 = .ok (.getfield 177, 3) := by decide +kernel
theorem dX10_nameOf_101 : decode cX10_nameOf 101 = .ok (.iload_n 1, 1) := by decide +kernel
theorem dX10_nameOf_102 : decode cX10_nameOf 102 = .ok (.iaload, 1) := by decide +kernel
theorem dX10_nameOf_103 : decode cX10_nameOf 103 = .ok (.ireturn, 1) := by decide +kernel
theorem dX10_nameOf_104 : decode cX10_nameOf 104 = .ok (.aload_n 0, 1) := by decide +kernel
theorem dX10_nameOf_105 : decode cX10_nameOf 105 = .ok (.getfield 19, 3) := by decide +kernel
theorem dX10_nameOf_108 : decode cX10_nameOf 108 = .ok (.getfield 100, 3) := by decide +kernel
theorem dX10_nameOf_111 : decode cX10_nameOf 111 = .ok (.getfield 180, 3) := by decide +kernel
theorem dX10_nameOf_114 : decode cX10_nameOf 114 = .ok (.iload_n 1, 1) := by decide +kernel
theorem dX10_nameOf_115 : decode cX10_nameOf 115 = .ok (.iaload, 1) := by decide +kernel
theorem dX10_nameOf_116 : decode cX10_nameOf 116 = .ok (.ireturn, 1) := by decide +kernel
theorem dX10_nameOf_117 : decode cX10_nameOf 117 = .ok (.aload_n 0, 1) := by decide +kernel
theorem dX10_nameOf_118 : decode cX10_nameOf 118 = .ok (.getfield 19, 3) := by decide +kernel
theorem dX10_nameOf_121 : decode cX10_nameOf 121 = .ok (.getfield 100, 3) := by decide +kernel
theorem dX10_nameOf_124 : decode cX10_nameOf 124 = .ok (.getfield 183, 3) := by decide +kernel
theorem dX10_nameOf_127 : decode cX10_nameOf 127 = .ok (.iload_n 1, 1) := by decide +kernel
theorem dX10_nameOf_128 : decode cX10_nameOf 128 = .ok (.iaload, 1) := by decide +kernel
theorem dX10_nameOf_129 : decode cX10_nameOf 129 = .ok (.ireturn, 1) := by decide +kernel
theorem dX10_nameOf_130 : decode cX10_nameOf 130 = .ok (.aload_n 0, 1) := by decide +kernel
theorem dX10_nameOf_131 : decode cX10_nameOf 131 = .ok (.getfield 19, 3) := by decide +kernel
theorem dX10_nameOf_134 : decode cX10_nameOf 134 = .ok (.getfield 100, 3) := by decide +kernel
theorem dX10_nameOf_137 : decode cX10_nameOf 137 = .ok (.getfield 186, 3) := by decide +kernel
theorem dX10_nameOf_140 : decode cX10_nameOf 140 = .ok (.iload_n 1, 1) := by decide +kernel
theorem dX10_nameOf_141 : decode cX10_nameOf 141 = .ok (.iaload, 1) := by decide +kernel
theorem dX10_nameOf_142 : decode cX10_nameOf 142 = .ok (.ireturn, 1) := by decide +kernel
theorem dX10_nameOf_143 : decode cX10_nameOf 143 = .ok (.aload_n 0, 1) := by decide +kernel
theorem dX10_nameOf_144 : decode cX10_nameOf 144 = .ok (.getfield 19, 3) := by decide +kernel
theorem dX10_nameOf_147 : decode cX10_nameOf 147 = .ok (.getfield 100, 3) := by decide +kernel
theorem dX10_nameOf_150 : decode cX10_nameOf 150 = .ok (.getfield 189, 3) := by decide +kernel
theorem dX10_nameOf_153 : decode cX10_nameOf 153 = .ok (.iload_n 1, 1) := by decide +kernel
theorem dX10_nameOf_154 : decode cX10_nameOf 154 = .ok (.baload, 1) := by decide +kernel
theorem dX10_nameOf_155 : decode cX10_nameOf 155 = .ok (.ifCond .eq 7, 3) := by decide +kernel
theorem dX10_nameOf_158 : decode cX10_nameOf 158 = .ok (.iconst 1, 1) := by decide +kernel
theorem dX10_nameOf_159 : decode cX10_nameOf 159 = .ok (.goto 4, 3) := by decide +kernel
theorem dX10_nameOf_162 : decode cX10_nameOf 162 = .ok (.iconst 0, 1) := by decide +kernel
theorem dX10_nameOf_163 : decode cX10_nameOf 163 = .ok (.ireturn, 1) := by decide +kernel
theorem dX10_nameOf_164 : decode cX10_nameOf 164 = .ok (.new 47, 3) := by decide +kernel
theorem dX10_nameOf_167 : decode cX10_nameOf 167 = .ok (.dup, 1) := by decide +kernel
theorem dX10_nameOf_168 : decode cX10_nameOf 168 = .ok (.ldc 193, 2) := by decide +kernel
theorem dX10_nameOf_170 : decode cX10_nameOf 170 = .ok (.invokespecial 51, 3) := by decide +kernel
theorem dX10_nameOf_173 : decode cX10_nameOf 173 = .ok (.athrow, 1) := by decide +kernel
theorem dX10_letter_0 : decode cX10_letter 0 = .ok (.aload_n 0, 1) := by decide +kernel
theorem dX10_letter_1 : decode cX10_letter 1 = .ok (.iload_n 1, 1) := by decide +kernel
theorem dX10_letter_2 : decode cX10_letter 2 = .ok (.invokevirtual 165, 3) := by decide +kernel
theorem dX10_letter_5 : decode cX10_letter 5 = .ok (.iload_n 2, 1) := by decide +kernel
theorem dX10_letter_6 : decode cX10_letter 6 = .ok (.ifCond .ge 13, 3) := by decide +kernel
theorem dX10_letter_9 : decode cX10_letter 9 = .ok (.new 195, 3) := by decide +kernel
theorem dX10_letter_12 : decode cX10_letter 12 = .ok (.dup, 1) := by decide +kernel
theorem dX10_letter_13 : decode cX10_letter 13 = .ok (.ldc 197, 2) := by decide +kernel
theorem dX10_letter_15 : decode cX10_letter 15 = .ok (.invokespecial 199, 3) := by decide +kernel
theorem dX10_letter_18 : decode cX10_letter 18 = .ok (.athrow, 1) := by decide +kernel
theorem dX10_letter_19 : decode cX10_letter 19 = .ok (.iload_n 2, 1) := by decide +kernel
theorem dX10_letter_20 : decode cX10_letter 20 = .ok (.aload_n 0, 1) := by decide +kernel
theorem dX10_letter_21 : decode cX10_letter 21 = .ok (.getfield 19, 3) := by decide +kernel
theorem dX10_letter_24 : decode cX10_letter 24 = .ok (.getfield 100, 3) := by decide +kernel
theorem dX10_letter_27 : decode cX10_letter 27 = .ok (.getfield 168, 3) := by decide +kernel
theorem dX10_letter_30 : decode cX10_letter 30 = .ok (.iload_n 1, 1) := by decide +kernel
theorem dX10_letter_31 : decode cX10_letter 31 = .ok (.iaload, 1) := by decide +kernel
theorem dX10_letter_32 : decode cX10_letter 32 = .ok (.if_icmp .lt 5, 3) := by decide +kernel
theorem dX10_letter_35 : decode cX10_letter 35 = .ok (.iconst (-1), 1) := by decide +kernel
theorem dX10_letter_36 : decode cX10_letter 36 = .ok (.ireturn, 1) := by decide +kernel
theorem dX10_letter_37 : decode cX10_letter 37 = .ok (.aload_n 0, 1) := by decide +kernel
theorem dX10_letter_38 : decode cX10_letter 38 = .ok (.getfield 19, 3) := by decide +kernel
theorem dX10_letter_41 : decode cX10_letter 41 = .ok (.getfield 100, 3) := by decide +kernel
theorem dX10_letter_44 : decode cX10_letter 44 = .ok (.getfield 168, 3) := by decide +kernel
theorem dX10_letter_47 : decode cX10_letter 47 = .ok (.iload_n 1, 1) := by decide +kernel
theorem dX10_letter_48 : decode cX10_letter 48 = .ok (.iaload, 1) := by decide +kernel
theorem dX10_letter_49 : decode cX10_letter 49 = .ok (.aload_n 0, 1) := by decide +kernel
theorem dX10_letter_50 : decode cX10_letter 50 = .ok (.getfield 19, 3) := by decide +kernel
theorem dX10_letter_53 : decode cX10_letter 53 = .ok (.getfield 100, 3) := by decide +kernel
theorem dX10_letter_56 : decode cX10_letter 56 = .ok (.getfield 171, 3) := by decide +kernel
theorem dX10_letter_59 : decode cX10_letter 59 = .ok (.iload_n 1, 1) := by decide +kernel
theorem dX10_letter_60 : decode cX10_letter 60 = .ok (.iaload, 1) := by decide +kernel
theorem dX10_letter_61 : decode cX10_letter 61 = .ok (.iload_n 2, 1) := by decide +kernel
theorem dX10_letter_62 : decode cX10_letter 62 = .ok (.invokestatic 200, 3) := by decide +kernel
theorem dX10_letter_65 : decode cX10_letter 65 = .ok (.ireturn, 1) := by decide +kernel
theorem dX10_roll_0 : decode cX10_roll 0 = .ok (.iload_n 1, 1) := by decide +kernel
theorem dX10_roll_1 : decode cX10_roll 1 = .ok (.ifCond .ge 13, 3) := by decide +kernel
theorem dX10_roll_4 : decode cX10_roll 4 = .ok (.new 47, 3) := by decide +kernel
theorem dX10_roll_7 : decode cX10_roll 7 = .ok (.dup, 1) := by decide +kernel
theorem dX10_roll_8 : decode cX10_roll 8 = .ok (.ldc 206, 2) := by decide +kernel
theorem dX10_roll_10 : decode cX10_roll 10 = .ok (.invokespecial 51, 3) := by decide +kernel
theorem dX10_roll_13 : decode cX10_roll 13 = .ok (.athrow, 1) := by decide +kernel
theorem dX10_roll_14 : decode cX10_roll 14 = .ok (.aload_n 0, 1) := by decide +kernel
theorem dX10_roll_15 : decode cX10_roll 15 = .ok (.getfield 19, 3) := by decide +kernel
theorem dX10_roll_18 : decode cX10_roll 18 = .ok (.getfield 100, 3) := by decide +kernel
theorem dX10_roll_21 : decode cX10_roll 21 = .ok (.iload_n 1, 1) := by decide +kernel
theorem dX10_roll_22 : decode cX10_roll 22 = .ok (.invokevirtual 208, 3) := by decide +kernel
theorem dX10_roll_25 : decode cX10_roll 25 = .ok (.ireturn, 1) := by decide +kernel
theorem dX10_meant_0 : decode cX10_meant 0 = .ok (.iload_n 1, 1) := by decide +kernel
theorem dX10_meant_1 : decode cX10_meant 1 = .ok (.invokestatic 211, 3) := by decide +kernel
theorem dX10_meant_4 : decode cX10_meant 4 = .ok (.iload_n 2, 1) := by decide +kernel
theorem dX10_meant_5 : decode cX10_meant 5 = .ok (.iload_n 3, 1) := by decide +kernel
theorem dX10_meant_6 : decode cX10_meant 6 = .ok (.invokestatic 214, 3) := by decide +kernel
theorem dX10_meant_9 : decode cX10_meant 9 = .ok (.iload 4, 2) := by decide +kernel
theorem dX10_meant_11 : decode cX10_meant 11 = .ok (.lookupswitch 47 #[(0, 25), (1, 36)], 25) := by decide +kernel
theorem dX10_meant_36 : decode cX10_meant 36 = .ok (.aload_n 0, 1) := by decide +kernel
theorem dX10_meant_37 : decode cX10_meant 37 = .ok (.getfield 19, 3) := by decide +kernel
theorem dX10_meant_40 : decode cX10_meant 40 = .ok (.iload_n 1, 1) := by decide +kernel
theorem dX10_meant_41 : decode cX10_meant 41 = .ok (.iload_n 2, 1) := by decide +kernel
theorem dX10_meant_42 : decode cX10_meant 42 = .ok (.iload_n 3, 1) := by decide +kernel
theorem dX10_meant_43 : decode cX10_meant 43 = .ok (.invokevirtual 218, 3) := by decide +kernel
theorem dX10_meant_46 : decode cX10_meant 46 = .ok (.ireturn, 1) := by decide +kernel
theorem dX10_meant_47 : decode cX10_meant 47 = .ok (.aload_n 0, 1) := by decide +kernel
theorem dX10_meant_48 : decode cX10_meant 48 = .ok (.getfield 19, 3) := by decide +kernel
theorem dX10_meant_51 : decode cX10_meant 51 = .ok (.iload_n 1, 1) := by decide +kernel
theorem dX10_meant_52 : decode cX10_meant 52 = .ok (.iload_n 2, 1) := by decide +kernel
theorem dX10_meant_53 : decode cX10_meant 53 = .ok (.iload_n 3, 1) := by decide +kernel
theorem dX10_meant_54 : decode cX10_meant 54 = .ok (.invokevirtual 221, 3) := by decide +kernel
theorem dX10_meant_57 : decode cX10_meant 57 = .ok (.ireturn, 1) := by decide +kernel
theorem dX10_meant_58 : decode cX10_meant 58 = .ok (.new 47, 3) := by decide +kernel
theorem dX10_meant_61 : decode cX10_meant 61 = .ok (.dup, 1) := by decide +kernel
theorem dX10_meant_62 : decode cX10_meant 62 = .ok (.ldc 224, 2) := by decide +kernel
theorem dX10_meant_64 : decode cX10_meant 64 = .ok (.invokespecial 51, 3) := by decide +kernel
theorem dX10_meant_67 : decode cX10_meant 67 = .ok (.athrow, 1) := by decide +kernel
theorem dX10_person_0 : decode cX10_person 0 = .ok (.iload_n 2, 1) := by decide +kernel
theorem dX10_person_1 : decode cX10_person 1 = .ok (.invokestatic 226, 3) := by decide +kernel
theorem dX10_person_4 : decode cX10_person 4 = .ok (.ifCond .ne 13, 3) := by decide +kernel
theorem dX10_person_7 : decode cX10_person 7 = .ok (.new 195, 3) := by decide +kernel
theorem dX10_person_10 : decode cX10_person 10 = .ok (.dup, 1) := by decide +kernel
theorem dX10_person_11 : decode cX10_person 11 = .ok (.ldc 230, 2) := by decide +kernel
theorem dX10_person_13 : decode cX10_person 13 = .ok (.invokespecial 199, 3) := by decide +kernel
theorem dX10_person_16 : decode cX10_person 16 = .ok (.athrow, 1) := by decide +kernel
theorem dX10_person_17 : decode cX10_person 17 = .ok (.iload_n 3, 1) := by decide +kernel
theorem dX10_person_18 : decode cX10_person 18 = .ok (.invokestatic 211, 3) := by decide +kernel
theorem dX10_person_21 : decode cX10_person 21 = .ok (.iload_n 1, 1) := by decide +kernel
theorem dX10_person_22 : decode cX10_person 22 = .ok (.invokestatic 232, 3) := by decide +kernel
theorem dX10_person_25 : decode cX10_person 25 = .ok (.ifCond .ne 13, 3) := by decide +kernel
theorem dX10_person_28 : decode cX10_person 28 = .ok (.new 47, 3) := by decide +kernel
theorem dX10_person_31 : decode cX10_person 31 = .ok (.dup, 1) := by decide +kernel
theorem dX10_person_32 : decode cX10_person 32 = .ok (.ldc 235, 2) := by decide +kernel
theorem dX10_person_34 : decode cX10_person 34 = .ok (.invokespecial 51, 3) := by decide +kernel
theorem dX10_person_37 : decode cX10_person 37 = .ok (.athrow, 1) := by decide +kernel
theorem dX10_person_38 : decode cX10_person 38 = .ok (.aload_n 0, 1) := by decide +kernel
theorem dX10_person_39 : decode cX10_person 39 = .ok (.getfield 19, 3) := by decide +kernel
theorem dX10_person_42 : decode cX10_person 42 = .ok (.getfield 91, 3) := by decide +kernel
theorem dX10_person_45 : decode cX10_person 45 = .ok (.invokevirtual 237, 3) := by decide +kernel
theorem dX10_person_48 : decode cX10_person 48 = .ok (.ifCond .eq 13, 3) := by decide +kernel
theorem dX10_person_51 : decode cX10_person 51 = .ok (.new 58, 3) := by decide +kernel
theorem dX10_person_54 : decode cX10_person 54 = .ok (.dup, 1) := by decide +kernel
theorem dX10_person_55 : decode cX10_person 55 = .ok (.ldc 240, 2) := by decide +kernel
theorem dX10_person_57 : decode cX10_person 57 = .ok (.invokespecial 62, 3) := by decide +kernel
theorem dX10_person_60 : decode cX10_person 60 = .ok (.athrow, 1) := by decide +kernel
theorem dX10_person_61 : decode cX10_person 61 = .ok (.aload_n 0, 1) := by decide +kernel
theorem dX10_person_62 : decode cX10_person 62 = .ok (.getfield 29, 3) := by decide +kernel
theorem dX10_person_65 : decode cX10_person 65 = .ok (.aload_n 0, 1) := by decide +kernel
theorem dX10_person_66 : decode cX10_person 66 = .ok (.getfield 19, 3) := by decide +kernel
theorem dX10_person_69 : decode cX10_person 69 = .ok (.invokevirtual 242, 3) := by decide +kernel
theorem dX10_person_72 : decode cX10_person 72 = .ok (.aload_n 0, 1) := by decide +kernel
theorem dX10_person_73 : decode cX10_person 73 = .ok (.getfield 19, 3) := by decide +kernel
theorem dX10_person_76 : decode cX10_person 76 = .ok (.getfield 91, 3) := by decide +kernel
theorem dX10_person_79 : decode cX10_person 79 = .ok (.iload_n 1, 1) := by decide +kernel
theorem dX10_person_80 : decode cX10_person 80 = .ok (.iload_n 2, 1) := by decide +kernel
theorem dX10_person_81 : decode cX10_person 81 = .ok (.iload_n 3, 1) := by decide +kernel
theorem dX10_person_82 : decode cX10_person 82 = .ok (.invokevirtual 246, 3) := by decide +kernel
theorem dX10_person_85 : decode cX10_person 85 = .ok (.aload_n 0, 1) := by decide +kernel
theorem dX10_person_86 : decode cX10_person 86 = .ok (.getfield 19, 3) := by decide +kernel
theorem dX10_person_89 : decode cX10_person 89 = .ok (.getfield 91, 3) := by decide +kernel
theorem dX10_person_92 : decode cX10_person 92 = .ok (.getfield 95, 3) := by decide +kernel
theorem dX10_person_95 : decode cX10_person 95 = .ok (.iconst 1, 1) := by decide +kernel
theorem dX10_person_96 : decode cX10_person 96 = .ok (.isub, 1) := by decide +kernel
theorem dX10_person_97 : decode cX10_person 97 = .ok (.ireturn, 1) := by decide +kernel
theorem dX10_sit_0 : decode cX10_sit 0 = .ok (.aload_n 0, 1) := by decide +kernel
theorem dX10_sit_1 : decode cX10_sit 1 = .ok (.iload_n 1, 1) := by decide +kernel
theorem dX10_sit_2 : decode cX10_sit 2 = .ok (.invokevirtual 132, 3) := by decide +kernel
theorem dX10_sit_5 : decode cX10_sit 5 = .ok (.iload_n 2, 1) := by decide +kernel
theorem dX10_sit_6 : decode cX10_sit 6 = .ok (.invokestatic 211, 3) := by decide +kernel
theorem dX10_sit_9 : decode cX10_sit 9 = .ok (.aload_n 0, 1) := by decide +kernel
theorem dX10_sit_10 : decode cX10_sit 10 = .ok (.getfield 19, 3) := by decide +kernel
theorem dX10_sit_13 : decode cX10_sit 13 = .ok (.iload_n 1, 1) := by decide +kernel
theorem dX10_sit_14 : decode cX10_sit 14 = .ok (.iload_n 2, 1) := by decide +kernel
theorem dX10_sit_15 : decode cX10_sit 15 = .ok (.invokevirtual 250, 3) := by decide +kernel
theorem dX10_sit_18 : decode cX10_sit 18 = .ok (.ifCond .eq 13, 3) := by decide +kernel
theorem dX10_sit_21 : decode cX10_sit 21 = .ok (.new 58, 3) := by decide +kernel
theorem dX10_sit_24 : decode cX10_sit 24 = .ok (.dup, 1) := by decide +kernel
theorem dX10_sit_25 : decode cX10_sit 25 = .ok (.ldc 254, 2) := by decide +kernel
theorem dX10_sit_27 : decode cX10_sit 27 = .ok (.invokespecial 62, 3) := by decide +kernel
theorem dX10_sit_30 : decode cX10_sit 30 = .ok (.athrow, 1) := by decide +kernel
theorem dX10_sit_31 : decode cX10_sit 31 = .ok (.aload_n 0, 1) := by decide +kernel
theorem dX10_sit_32 : decode cX10_sit 32 = .ok (.getfield 29, 3) := by decide +kernel
theorem dX10_sit_35 : decode cX10_sit 35 = .ok (.aload_n 0, 1) := by decide +kernel
theorem dX10_sit_36 : decode cX10_sit 36 = .ok (.getfield 19, 3) := by decide +kernel
theorem dX10_sit_39 : decode cX10_sit 39 = .ok (.invokevirtual 242, 3) := by decide +kernel
theorem dX10_sit_42 : decode cX10_sit 42 = .ok (.aload_n 0, 1) := by decide +kernel
theorem dX10_sit_43 : decode cX10_sit 43 = .ok (.getfield 19, 3) := by decide +kernel
theorem dX10_sit_46 : decode cX10_sit 46 = .ok (.getfield 91, 3) := by decide +kernel
theorem dX10_sit_49 : decode cX10_sit 49 = .ok (.getfield 142, 3) := by decide +kernel
theorem dX10_sit_52 : decode cX10_sit 52 = .ok (.iload_n 1, 1) := by decide +kernel
theorem dX10_sit_53 : decode cX10_sit 53 = .ok (.iaload, 1) := by decide +kernel
theorem dX10_sit_54 : decode cX10_sit 54 = .ok (.istore_n 3, 1) := by decide +kernel
theorem dX10_sit_55 : decode cX10_sit 55 = .ok (.aload_n 0, 1) := by decide +kernel
theorem dX10_sit_56 : decode cX10_sit 56 = .ok (.getfield 19, 3) := by decide +kernel
theorem dX10_sit_59 : decode cX10_sit 59 = .ok (.getfield 91, 3) := by decide +kernel
theorem dX10_sit_62 : decode cX10_sit 62 = .ok (.getfield 142, 3) := by decide +kernel
theorem dX10_sit_65 : decode cX10_sit 65 = .ok (.iload_n 1, 1) := by decide +kernel
theorem dX10_sit_66 : decode cX10_sit 66 = .ok (.iload_n 2, 1) := by decide +kernel
theorem dX10_sit_67 : decode cX10_sit 67 = .ok (.iastore, 1) := by decide +kernel
theorem dX10_sit_68 : decode cX10_sit 68 = .ok (.iload_n 3, 1) := by decide +kernel
theorem dX10_sit_69 : decode cX10_sit 69 = .ok (.ireturn, 1) := by decide +kernel
theorem dX10_give_0 : decode cX10_give 0 = .ok (.aload_n 0, 1) := by decide +kernel
theorem dX10_give_1 : decode cX10_give 1 = .ok (.iload_n 1, 1) := by decide +kernel
theorem dX10_give_2 : decode cX10_give 2 = .ok (.invokevirtual 132, 3) := by decide +kernel
theorem dX10_give_5 : decode cX10_give 5 = .ok (.aload_n 0, 1) := by decide +kernel
theorem dX10_give_6 : decode cX10_give 6 = .ok (.iload_n 2, 1) := by decide +kernel
theorem dX10_give_7 : decode cX10_give 7 = .ok (.invokevirtual 132, 3) := by decide +kernel
theorem dX10_give_10 : decode cX10_give 10 = .ok (.iload_n 3, 1) := by decide +kernel
theorem dX10_give_11 : decode cX10_give 11 = .ok (.iload 4, 2) := by decide +kernel
theorem dX10_give_13 : decode cX10_give 13 = .ok (.invokestatic 214, 3) := by decide +kernel
theorem dX10_give_16 : decode cX10_give 16 = .ok (.aload_n 0, 1) := by decide +kernel
theorem dX10_give_17 : decode cX10_give 17 = .ok (.getfield 29, 3) := by decide +kernel
theorem dX10_give_20 : decode cX10_give 20 = .ok (.aload_n 0, 1) := by decide +kernel
theorem dX10_give_21 : decode cX10_give 21 = .ok (.getfield 19, 3) := by decide +kernel
theorem dX10_give_24 : decode cX10_give 24 = .ok (.invokevirtual 242, 3) := by decide +kernel
theorem dX10_give_27 : decode cX10_give 27 = .ok (.aload_n 0, 1) := by decide +kernel
theorem dX10_give_28 : decode cX10_give 28 = .ok (.getfield 19, 3) := by decide +kernel
theorem dX10_give_31 : decode cX10_give 31 = .ok (.iload_n 1, 1) := by decide +kernel
theorem dX10_give_32 : decode cX10_give 32 = .ok (.iload_n 2, 1) := by decide +kernel
theorem dX10_give_33 : decode cX10_give 33 = .ok (.iload_n 3, 1) := by decide +kernel
theorem dX10_give_34 : decode cX10_give 34 = .ok (.iload 4, 2) := by decide +kernel
theorem dX10_give_36 : decode cX10_give 36 = .ok (.invokevirtual 256, 3) := by decide +kernel
theorem dX10_give_39 : decode cX10_give 39 = .ok (.istore 5, 2) := by decide +kernel
theorem dX10_give_41 : decode cX10_give 41 = .ok (.iload 5, 2) := by decide +kernel
theorem dX10_give_43 : decode cX10_give 43 = .ok (.ifCond .ne 28, 3) := by decide +kernel
theorem dX10_give_46 : decode cX10_give 46 = .ok (.aload_n 0, 1) := by decide +kernel
theorem dX10_give_47 : decode cX10_give 47 = .ok (.getfield 19, 3) := by decide +kernel
theorem dX10_give_50 : decode cX10_give 50 = .ok (.getfield 100, 3) := by decide +kernel
theorem dX10_give_53 : decode cX10_give 53 = .ok (.iload_n 1, 1) := by decide +kernel
theorem dX10_give_54 : decode cX10_give 54 = .ok (.iload_n 2, 1) := by decide +kernel
theorem dX10_give_55 : decode cX10_give 55 = .ok (.iload_n 3, 1) := by decide +kernel
theorem dX10_give_56 : decode cX10_give 56 = .ok (.iload 4, 2) := by decide +kernel
theorem dX10_give_58 : decode cX10_give 58 = .ok (.aload_n 0, 1) := by decide +kernel
theorem dX10_give_59 : decode cX10_give 59 = .ok (.getfield 19, 3) := by decide +kernel
theorem dX10_give_62 : decode cX10_give 62 = .ok (.getfield 111, 3) := by decide +kernel
theorem dX10_give_65 : decode cX10_give 65 = .ok (.invokevirtual 260, 3) := by decide +kernel
theorem dX10_give_68 : decode cX10_give 68 = .ok (.goto 16, 3) := by decide +kernel
theorem dX10_give_71 : decode cX10_give 71 = .ok (.aload_n 0, 1) := by decide +kernel
theorem dX10_give_72 : decode cX10_give 72 = .ok (.getfield 19, 3) := by decide +kernel
theorem dX10_give_75 : decode cX10_give 75 = .ok (.dup, 1) := by decide +kernel
theorem dX10_give_76 : decode cX10_give 76 = .ok (.getfield 123, 3) := by decide +kernel
theorem dX10_give_79 : decode cX10_give 79 = .ok (.iconst 1, 1) := by decide +kernel
theorem dX10_give_80 : decode cX10_give 80 = .ok (.iadd, 1) := by decide +kernel
theorem dX10_give_81 : decode cX10_give 81 = .ok (.putfield 123, 3) := by decide +kernel
theorem dX10_give_84 : decode cX10_give 84 = .ok (.iload 5, 2) := by decide +kernel
theorem dX10_give_86 : decode cX10_give 86 = .ok (.ireturn, 1) := by decide +kernel
theorem dX10_call_0 : decode cX10_call 0 = .ok (.iload_n 1, 1) := by decide +kernel
theorem dX10_call_1 : decode cX10_call 1 = .ok (.invokestatic 211, 3) := by decide +kernel
theorem dX10_call_4 : decode cX10_call 4 = .ok (.iload_n 2, 1) := by decide +kernel
theorem dX10_call_5 : decode cX10_call 5 = .ok (.iload_n 3, 1) := by decide +kernel
theorem dX10_call_6 : decode cX10_call 6 = .ok (.invokestatic 214, 3) := by decide +kernel
theorem dX10_call_9 : decode cX10_call 9 = .ok (.aload_n 0, 1) := by decide +kernel
theorem dX10_call_10 : decode cX10_call 10 = .ok (.getfield 29, 3) := by decide +kernel
theorem dX10_call_13 : decode cX10_call 13 = .ok (.aload_n 0, 1) := by decide +kernel
theorem dX10_call_14 : decode cX10_call 14 = .ok (.getfield 19, 3) := by decide +kernel
theorem dX10_call_17 : decode cX10_call 17 = .ok (.invokevirtual 242, 3) := by decide +kernel
theorem dX10_call_20 : decode cX10_call 20 = .ok (.aload_n 0, 1) := by decide +kernel
theorem dX10_call_21 : decode cX10_call 21 = .ok (.getfield 19, 3) := by decide +kernel
theorem dX10_call_24 : decode cX10_call 24 = .ok (.iload_n 1, 1) := by decide +kernel
theorem dX10_call_25 : decode cX10_call 25 = .ok (.iload_n 2, 1) := by decide +kernel
theorem dX10_call_26 : decode cX10_call 26 = .ok (.iload_n 3, 1) := by decide +kernel
theorem dX10_call_27 : decode cX10_call 27 = .ok (.invokevirtual 263, 3) := by decide +kernel
theorem dX10_call_30 : decode cX10_call 30 = .ok (.istore 4, 2) := by decide +kernel
theorem dX10_call_32 : decode cX10_call 32 = .ok (.iload 4, 2) := by decide +kernel
theorem dX10_call_34 : decode cX10_call 34 = .ok (.iconst (-1), 1) := by decide +kernel
theorem dX10_call_35 : decode cX10_call 35 = .ok (.if_icmp .ne 16, 3) := by decide +kernel
theorem dX10_call_38 : decode cX10_call 38 = .ok (.aload_n 0, 1) := by decide +kernel
theorem dX10_call_39 : decode cX10_call 39 = .ok (.getfield 19, 3) := by decide +kernel
theorem dX10_call_42 : decode cX10_call 42 = .ok (.dup, 1) := by decide +kernel
theorem dX10_call_43 : decode cX10_call 43 = .ok (.getfield 120, 3) := by decide +kernel
theorem dX10_call_46 : decode cX10_call 46 = .ok (.iconst 1, 1) := by decide +kernel
theorem dX10_call_47 : decode cX10_call 47 = .ok (.iadd, 1) := by decide +kernel
theorem dX10_call_48 : decode cX10_call 48 = .ok (.putfield 120, 3) := by decide +kernel
theorem dX10_call_51 : decode cX10_call 51 = .ok (.iload 4, 2) := by decide +kernel
theorem dX10_call_53 : decode cX10_call 53 = .ok (.ireturn, 1) := by decide +kernel
theorem dX10_years_0 : decode cX10_years 0 = .ok (.iload_n 1, 1) := by decide +kernel
theorem dX10_years_1 : decode cX10_years 1 = .ok (.invokestatic 266, 3) := by decide +kernel
theorem dX10_years_4 : decode cX10_years 4 = .ok (.ifCond .ne 14, 3) := by decide +kernel
theorem dX10_years_7 : decode cX10_years 7 = .ok (.new 47, 3) := by decide +kernel
theorem dX10_years_10 : decode cX10_years 10 = .ok (.dup, 1) := by decide +kernel
theorem dX10_years_11 : decode cX10_years 11 = .ok (.ldc_w 269, 3) := by decide +kernel
theorem dX10_years_14 : decode cX10_years 14 = .ok (.invokespecial 51, 3) := by decide +kernel
theorem dX10_years_17 : decode cX10_years 17 = .ok (.athrow, 1) := by decide +kernel
theorem dX10_years_18 : decode cX10_years 18 = .ok (.aload_n 0, 1) := by decide +kernel
theorem dX10_years_19 : decode cX10_years 19 = .ok (.getfield 19, 3) := by decide +kernel
theorem dX10_years_22 : decode cX10_years 22 = .ok (.getfield 111, 3) := by decide +kernel
theorem dX10_years_25 : decode cX10_years 25 = .ok (.iload_n 1, 1) := by decide +kernel
theorem dX10_years_26 : decode cX10_years 26 = .ok (.iadd, 1) := by decide +kernel
theorem dX10_years_27 : decode cX10_years 27 = .ok (.sipush 999, 3) := by decide +kernel
theorem dX10_years_30 : decode cX10_years 30 = .ok (.if_icmp .le 14, 3) := by decide +kernel
theorem dX10_years_33 : decode cX10_years 33 = .ok (.new 58, 3) := by decide +kernel
theorem dX10_years_36 : decode cX10_years 36 = .ok (.dup, 1) := by decide +kernel
theorem dX10_years_37 : decode cX10_years 37 = .ok (.ldc_w 271, 3) := by decide +kernel
theorem dX10_years_40 : decode cX10_years 40 = .ok (.invokespecial 62, 3) := by decide +kernel
theorem dX10_years_43 : decode cX10_years 43 = .ok (.athrow, 1) := by decide +kernel
theorem dX10_years_44 : decode cX10_years 44 = .ok (.aload_n 0, 1) := by decide +kernel
theorem dX10_years_45 : decode cX10_years 45 = .ok (.getfield 29, 3) := by decide +kernel
theorem dX10_years_48 : decode cX10_years 48 = .ok (.aload_n 0, 1) := by decide +kernel
theorem dX10_years_49 : decode cX10_years 49 = .ok (.getfield 19, 3) := by decide +kernel
theorem dX10_years_52 : decode cX10_years 52 = .ok (.invokevirtual 242, 3) := by decide +kernel
theorem dX10_years_55 : decode cX10_years 55 = .ok (.aload_n 0, 1) := by decide +kernel
theorem dX10_years_56 : decode cX10_years 56 = .ok (.getfield 19, 3) := by decide +kernel
theorem dX10_years_59 : decode cX10_years 59 = .ok (.iload_n 1, 1) := by decide +kernel
theorem dX10_years_60 : decode cX10_years 60 = .ok (.invokevirtual 273, 3) := by decide +kernel
theorem dX10_years_63 : decode cX10_years 63 = .ok (.ireturn, 1) := by decide +kernel
theorem dX10_set_0 : decode cX10_set 0 = .ok (.iload_n 1, 1) := by decide +kernel
theorem dX10_set_1 : decode cX10_set 1 = .ok (.iload_n 2, 1) := by decide +kernel
theorem dX10_set_2 : decode cX10_set 2 = .ok (.invokestatic 276, 3) := by decide +kernel
theorem dX10_set_5 : decode cX10_set 5 = .ok (.ifCond .ne 14, 3) := by decide +kernel
theorem dX10_set_8 : decode cX10_set 8 = .ok (.new 47, 3) := by decide +kernel
theorem dX10_set_11 : decode cX10_set 11 = .ok (.dup, 1) := by decide +kernel
theorem dX10_set_12 : decode cX10_set 12 = .ok (.ldc_w 279, 3) := by decide +kernel
theorem dX10_set_15 : decode cX10_set 15 = .ok (.invokespecial 51, 3) := by decide +kernel
theorem dX10_set_18 : decode cX10_set 18 = .ok (.athrow, 1) := by decide +kernel
theorem dX10_set_19 : decode cX10_set 19 = .ok (.aload_n 0, 1) := by decide +kernel
theorem dX10_set_20 : decode cX10_set 20 = .ok (.getfield 29, 3) := by decide +kernel
theorem dX10_set_23 : decode cX10_set 23 = .ok (.aload_n 0, 1) := by decide +kernel
theorem dX10_set_24 : decode cX10_set 24 = .ok (.getfield 19, 3) := by decide +kernel
theorem dX10_set_27 : decode cX10_set 27 = .ok (.invokevirtual 242, 3) := by decide +kernel
theorem dX10_set_30 : decode cX10_set 30 = .ok (.aload_n 0, 1) := by decide +kernel
theorem dX10_set_31 : decode cX10_set 31 = .ok (.getfield 19, 3) := by decide +kernel
theorem dX10_set_34 : decode cX10_set 34 = .ok (.getfield 126, 3) := by decide +kernel
theorem dX10_set_37 : decode cX10_set 37 = .ok (.iload_n 1, 1) := by decide +kernel
theorem dX10_set_38 : decode cX10_set 38 = .ok (.iaload, 1) := by decide +kernel
theorem dX10_set_39 : decode cX10_set 39 = .ok (.istore_n 3, 1) := by decide +kernel
theorem dX10_set_40 : decode cX10_set 40 = .ok (.aload_n 0, 1) := by decide +kernel
theorem dX10_set_41 : decode cX10_set 41 = .ok (.getfield 19, 3) := by decide +kernel
theorem dX10_set_44 : decode cX10_set 44 = .ok (.getfield 126, 3) := by decide +kernel
theorem dX10_set_47 : decode cX10_set 47 = .ok (.iload_n 1, 1) := by decide +kernel
theorem dX10_set_48 : decode cX10_set 48 = .ok (.iload_n 2, 1) := by decide +kernel
theorem dX10_set_49 : decode cX10_set 49 = .ok (.iastore, 1) := by decide +kernel
theorem dX10_set_50 : decode cX10_set 50 = .ok (.iload_n 3, 1) := by decide +kernel
theorem dX10_set_51 : decode cX10_set 51 = .ok (.ireturn, 1) := by decide +kernel
theorem dX10_undo_0 : decode cX10_undo 0 = .ok (.aload_n 0, 1) := by decide +kernel
theorem dX10_undo_1 : decode cX10_undo 1 = .ok (.getfield 29, 3) := by decide +kernel
theorem dX10_undo_4 : decode cX10_undo 4 = .ok (.getfield 281, 3) := by decide +kernel
theorem dX10_undo_7 : decode cX10_undo 7 = .ok (.ifCond .ne 14, 3) := by decide +kernel
theorem dX10_undo_10 : decode cX10_undo 10 = .ok (.new 58, 3) := by decide +kernel
theorem dX10_undo_13 : decode cX10_undo 13 = .ok (.dup, 1) := by decide +kernel
theorem dX10_undo_14 : decode cX10_undo 14 = .ok (.ldc_w 282, 3) := by decide +kernel
theorem dX10_undo_17 : decode cX10_undo 17 = .ok (.invokespecial 62, 3) := by decide +kernel
theorem dX10_undo_20 : decode cX10_undo 20 = .ok (.athrow, 1) := by decide +kernel
theorem dX10_undo_21 : decode cX10_undo 21 = .ok (.aload_n 0, 1) := by decide +kernel
theorem dX10_undo_22 : decode cX10_undo 22 = .ok (.getfield 29, 3) := by decide +kernel
theorem dX10_undo_25 : decode cX10_undo 25 = .ok (.aload_n 0, 1) := by decide +kernel
theorem dX10_undo_26 : decode cX10_undo 26 = .ok (.getfield 19, 3) := by decide +kernel
theorem dX10_undo_29 : decode cX10_undo 29 = .ok (.invokevirtual 284, 3) := by decide +kernel
theorem dX10_undo_32 : decode cX10_undo 32 = .ok (.aload_n 0, 1) := by decide +kernel
theorem dX10_undo_33 : decode cX10_undo 33 = .ok (.getfield 29, 3) := by decide +kernel
theorem dX10_undo_36 : decode cX10_undo 36 = .ok (.getfield 281, 3) := by decide +kernel
theorem dX10_undo_39 : decode cX10_undo 39 = .ok (.ireturn, 1) := by decide +kernel
theorem dX10_why_0 : decode cX10_why 0 = .ok (.aload_n 0, 1) := by decide +kernel
theorem dX10_why_1 : decode cX10_why 1 = .ok (.iload_n 1, 1) := by decide +kernel
theorem dX10_why_2 : decode cX10_why 2 = .ok (.invokevirtual 132, 3) := by decide +kernel
theorem dX10_why_5 : decode cX10_why 5 = .ok (.aload_n 0, 1) := by decide +kernel
theorem dX10_why_6 : decode cX10_why 6 = .ok (.iload_n 2, 1) := by decide +kernel
theorem dX10_why_7 : decode cX10_why 7 = .ok (.invokevirtual 132, 3) := by decide +kernel
theorem dX10_why_10 : decode cX10_why 10 = .ok (.iload_n 3, 1) := by decide +kernel
theorem dX10_why_11 : decode cX10_why 11 = .ok (.iload 4, 2) := by decide +kernel
theorem dX10_why_13 : decode cX10_why 13 = .ok (.invokestatic 214, 3) := by decide +kernel
theorem dX10_why_16 : decode cX10_why 16 = .ok (.aload_n 0, 1) := by decide +kernel
theorem dX10_why_17 : decode cX10_why 17 = .ok (.getfield 19, 3) := by decide +kernel
theorem dX10_why_20 : decode cX10_why 20 = .ok (.iload_n 1, 1) := by decide +kernel
theorem dX10_why_21 : decode cX10_why 21 = .ok (.iload_n 2, 1) := by decide +kernel
theorem dX10_why_22 : decode cX10_why 22 = .ok (.iload_n 3, 1) := by decide +kernel
theorem dX10_why_23 : decode cX10_why 23 = .ok (.iload 4, 2) := by decide +kernel
theorem dX10_why_25 : decode cX10_why 25 = .ok (.invokevirtual 256, 3) := by decide +kernel
theorem dX10_why_28 : decode cX10_why 28 = .ok (.ireturn, 1) := by decide +kernel
theorem dX10_endsIn_0 : decode cX10_endsIn 0 = .ok (.aload_n 0, 1) := by decide +kernel
theorem dX10_endsIn_1 : decode cX10_endsIn 1 = .ok (.iload_n 1, 1) := by decide +kernel
theorem dX10_endsIn_2 : decode cX10_endsIn 2 = .ok (.invokevirtual 165, 3) := by decide +kernel
theorem dX10_endsIn_5 : decode cX10_endsIn 5 = .ok (.aload_n 0, 1) := by decide +kernel
theorem dX10_endsIn_6 : decode cX10_endsIn 6 = .ok (.getfield 19, 3) := by decide +kernel
theorem dX10_endsIn_9 : decode cX10_endsIn 9 = .ok (.iload_n 1, 1) := by decide +kernel
theorem dX10_endsIn_10 : decode cX10_endsIn 10 = .ok (.invokevirtual 287, 3) := by decide +kernel
theorem dX10_endsIn_13 : decode cX10_endsIn 13 = .ok (.ireturn, 1) := by decide +kernel
theorem dX10_bestName_0 : decode cX10_bestName 0 = .ok (.aload_n 0, 1) := by decide +kernel
theorem dX10_bestName_1 : decode cX10_bestName 1 = .ok (.iload_n 1, 1) := by decide +kernel
theorem dX10_bestName_2 : decode cX10_bestName 2 = .ok (.invokevirtual 132, 3) := by decide +kernel
theorem dX10_bestName_5 : decode cX10_bestName 5 = .ok (.aload_n 0, 1) := by decide +kernel
theorem dX10_bestName_6 : decode cX10_bestName 6 = .ok (.iload_n 2, 1) := by decide +kernel
theorem dX10_bestName_7 : decode cX10_bestName 7 = .ok (.invokevirtual 132, 3) := by decide +kernel
theorem dX10_bestName_10 : decode cX10_bestName 10 = .ok (.iload_n 3, 1) := by decide +kernel
theorem dX10_bestName_11 : decode cX10_bestName 11 = .ok (.iconst 1, 1) := by decide +kernel
theorem dX10_bestName_12 : decode cX10_bestName 12 = .ok (.if_icmp .eq 19, 3) := by decide +kernel
theorem dX10_bestName_15 : decode cX10_bestName 15 = .ok (.iload_n 3, 1) := by decide +kernel
theorem dX10_bestName_16 : decode cX10_bestName 16 = .ok (.iconst 2, 1) := by decide +kernel
theorem dX10_bestName_17 : decode cX10_bestName 17 = .ok (.if_icmp .eq 14, 3) := by decide +kernel
theorem dX10_bestName_20 : decode cX10_bestName 20 = .ok (.new 47, 3) := by decide +kernel
theorem dX10_bestName_23 : decode cX10_bestName 23 = .ok (.dup, 1) := by decide +kernel
theorem dX10_bestName_24 : decode cX10_bestName 24 = .ok (.ldc_w 290, 3) := by decide +kernel
theorem dX10_bestName_27 : decode cX10_bestName 27 = .ok (.invokespecial 51, 3) := by decide +kernel
theorem dX10_bestName_30 : decode cX10_bestName 30 = .ok (.athrow, 1) := by decide +kernel
theorem dX10_bestName_31 : decode cX10_bestName 31 = .ok (.aload_n 0, 1) := by decide +kernel
theorem dX10_bestName_32 : decode cX10_bestName 32 = .ok (.getfield 43, 3) := by decide +kernel
theorem dX10_bestName_35 : decode cX10_bestName 35 = .ok (.aload_n 0, 1) := by decide +kernel
theorem dX10_bestName_36 : decode cX10_bestName 36 = .ok (.getfield 19, 3) := by decide +kernel
theorem dX10_bestName_39 : decode cX10_bestName 39 = .ok (.iload_n 1, 1) := by decide +kernel
theorem dX10_bestName_40 : decode cX10_bestName 40 = .ok (.iload_n 2, 1) := by decide +kernel
theorem dX10_bestName_41 : decode cX10_bestName 41 = .ok (.iload_n 3, 1) := by decide +kernel
theorem dX10_bestName_42 : decode cX10_bestName 42 = .ok (.invokevirtual 292, 3) := by decide +kernel
theorem dX10_bestName_45 : decode cX10_bestName 45 = .ok (.ireturn, 1) := by decide +kernel
theorem dX10_bestGiver_0 : decode cX10_bestGiver 0 = .ok (.iconst (-1), 1) := by decide +kernel
theorem dX10_bestGiver_1 : decode cX10_bestGiver 1 = .ok (.istore_n 1, 1) := by decide +kernel
theorem dX10_bestGiver_2 : decode cX10_bestGiver 2 = .ok (.iconst 0, 1) := by decide +kernel
theorem dX10_bestGiver_3 : decode cX10_bestGiver 3 = .ok (.istore_n 2, 1) := by decide +kernel
theorem dX10_bestGiver_4 : decode cX10_bestGiver 4 = .ok (.iload_n 2, 1) := by decide +kernel
theorem dX10_bestGiver_5 : decode cX10_bestGiver 5 = .ok (.aload_n 0, 1) := by decide +kernel
theorem dX10_bestGiver_6 : decode cX10_bestGiver 6 = .ok (.getfield 19, 3) := by decide +kernel
theorem dX10_bestGiver_9 : decode cX10_bestGiver 9 = .ok (.getfield 91, 3) := by decide +kernel
theorem dX10_bestGiver_12 : decode cX10_bestGiver 12 = .ok (.getfield 95, 3) := by decide +kernel
theorem dX10_bestGiver_15 : decode cX10_bestGiver 15 = .ok (.if_icmp .ge 45, 3) := by decide +kernel
theorem dX10_bestGiver_18 : decode cX10_bestGiver 18 = .ok (.aload_n 0, 1) := by decide +kernel
theorem dX10_bestGiver_19 : decode cX10_bestGiver 19 = .ok (.getfield 19, 3) := by decide +kernel
theorem dX10_bestGiver_22 : decode cX10_bestGiver 22 = .ok (.getfield 100, 3) := by decide +kernel
theorem dX10_bestGiver_25 : decode cX10_bestGiver 25 = .ok (.iload_n 2, 1) := by decide +kernel
theorem dX10_bestGiver_26 : decode cX10_bestGiver 26 = .ok (.invokevirtual 151, 3) := by decide +kernel
theorem dX10_bestGiver_29 : decode cX10_bestGiver 29 = .ok (.ifCond .le 25, 3) := by decide +kernel
theorem dX10_bestGiver_32 : decode cX10_bestGiver 32 = .ok (.iload_n 1, 1) := by decide +kernel
theorem dX10_bestGiver_33 : decode cX10_bestGiver 33 = .ok (.iconst (-1), 1) := by decide +kernel
theorem dX10_bestGiver_34 : decode cX10_bestGiver 34 = .ok (.if_icmp .eq 18, 3) := by decide +kernel
theorem dX10_bestGiver_37 : decode cX10_bestGiver 37 = .ok (.aload_n 0, 1) := by decide +kernel
theorem dX10_bestGiver_38 : decode cX10_bestGiver 38 = .ok (.getfield 19, 3) := by decide +kernel
theorem dX10_bestGiver_41 : decode cX10_bestGiver 41 = .ok (.getfield 100, 3) := by decide +kernel
theorem dX10_bestGiver_44 : decode cX10_bestGiver 44 = .ok (.iload_n 2, 1) := by decide +kernel
theorem dX10_bestGiver_45 : decode cX10_bestGiver 45 = .ok (.iload_n 1, 1) := by decide +kernel
theorem dX10_bestGiver_46 : decode cX10_bestGiver 46 = .ok (.invokevirtual 296, 3) := by decide +kernel
theorem dX10_bestGiver_49 : decode cX10_bestGiver 49 = .ok (.ifCond .eq 5, 3) := by decide +kernel
theorem dX10_bestGiver_52 : decode cX10_bestGiver 52 = .ok (.iload_n 2, 1) := by decide +kernel
theorem dX10_bestGiver_53 : decode cX10_bestGiver 53 = .ok (.istore_n 1, 1) := by decide +kernel
theorem dX10_bestGiver_54 : decode cX10_bestGiver 54 = .ok (.iinc 2 1, 3) := by decide +kernel
theorem dX10_bestGiver_57 : decode cX10_bestGiver 57 = .ok (.goto (-53), 3) := by decide +kernel
theorem dX10_bestGiver_60 : decode cX10_bestGiver 60 = .ok (.iload_n 1, 1) := by decide +kernel
theorem dX10_bestGiver_61 : decode cX10_bestGiver 61 = .ok (.ireturn, 1) := by decide +kernel
theorem dX10_mixed_0 : decode cX10_mixed 0 = .ok (.iconst (-1), 1) := by decide +kernel
theorem dX10_mixed_1 : decode cX10_mixed 1 = .ok (.istore_n 1, 1) := by decide +kernel
theorem dX10_mixed_2 : decode cX10_mixed 2 = .ok (.iconst 0, 1) := by decide +kernel
theorem dX10_mixed_3 : decode cX10_mixed 3 = .ok (.istore_n 2, 1) := by decide +kernel
theorem dX10_mixed_4 : decode cX10_mixed 4 = .ok (.iload_n 2, 1) := by decide +kernel
theorem dX10_mixed_5 : decode cX10_mixed 5 = .ok (.aload_n 0, 1) := by decide +kernel
theorem dX10_mixed_6 : decode cX10_mixed 6 = .ok (.getfield 19, 3) := by decide +kernel
theorem dX10_mixed_9 : decode cX10_mixed 9 = .ok (.getfield 91, 3) := by decide +kernel
theorem dX10_mixed_12 : decode cX10_mixed 12 = .ok (.getfield 95, 3) := by decide +kernel
theorem dX10_mixed_15 : decode cX10_mixed 15 = .ok (.if_icmp .ge 47, 3) := by decide +kernel
theorem dX10_mixed_18 : decode cX10_mixed 18 = .ok (.aload_n 0, 1) := by decide +kernel
theorem dX10_mixed_19 : decode cX10_mixed 19 = .ok (.getfield 19, 3) := by decide +kernel
theorem dX10_mixed_22 : decode cX10_mixed 22 = .ok (.getfield 91, 3) := by decide +kernel
theorem dX10_mixed_25 : decode cX10_mixed 25 = .ok (.getfield 157, 3) := by decide +kernel
theorem dX10_mixed_28 : decode cX10_mixed 28 = .ok (.iload_n 2, 1) := by decide +kernel
theorem dX10_mixed_29 : decode cX10_mixed 29 = .ok (.iaload, 1) := by decide +kernel
theorem dX10_mixed_30 : decode cX10_mixed 30 = .ok (.iload_n 1, 1) := by decide +kernel
theorem dX10_mixed_31 : decode cX10_mixed 31 = .ok (.iconst (-1), 1) := by decide +kernel
theorem dX10_mixed_32 : decode cX10_mixed 32 = .ok (.if_icmp .ne 7, 3) := by decide +kernel
theorem dX10_mixed_35 : decode cX10_mixed 35 = .ok (.iconst 0, 1) := by decide +kernel
theorem dX10_mixed_36 : decode cX10_mixed 36 = .ok (.goto 15, 3) := by decide +kernel
theorem dX10_mixed_39 : decode cX10_mixed 39 = .ok (.aload_n 0, 1) := by decide +kernel
theorem dX10_mixed_40 : decode cX10_mixed 40 = .ok (.getfield 19, 3) := by decide +kernel
theorem dX10_mixed_43 : decode cX10_mixed 43 = .ok (.getfield 91, 3) := by decide +kernel
theorem dX10_mixed_46 : decode cX10_mixed 46 = .ok (.getfield 157, 3) := by decide +kernel
theorem dX10_mixed_49 : decode cX10_mixed 49 = .ok (.iload_n 1, 1) := by decide +kernel
theorem dX10_mixed_50 : decode cX10_mixed 50 = .ok (.iaload, 1) := by decide +kernel
theorem dX10_mixed_51 : decode cX10_mixed 51 = .ok (.if_icmp .le 5, 3) := by decide +kernel
theorem dX10_mixed_54 : decode cX10_mixed 54 = .ok (.iload_n 2, 1) := by decide +kernel
theorem dX10_mixed_55 : decode cX10_mixed 55 = .ok (.istore_n 1, 1) := by decide +kernel
theorem dX10_mixed_56 : decode cX10_mixed 56 = .ok (.iinc 2 1, 3) := by decide +kernel
theorem dX10_mixed_59 : decode cX10_mixed 59 = .ok (.goto (-55), 3) := by decide +kernel
theorem dX10_mixed_62 : decode cX10_mixed 62 = .ok (.iload_n 1, 1) := by decide +kernel
theorem dX10_mixed_63 : decode cX10_mixed 63 = .ok (.ireturn, 1) := by decide +kernel
theorem dX10_runScript_0 : decode cX10_runScript 0 = .ok (.iload_n 1, 1) := by decide +kernel
theorem dX10_runScript_1 : decode cX10_runScript 1 = .ok (.iconst 1, 1) := by decide +kernel
theorem dX10_runScript_2 : decode cX10_runScript 2 = .ok (.if_icmp .lt 8, 3) := by decide +kernel
theorem dX10_runScript_5 : decode cX10_runScript 5 = .ok (.iload_n 1, 1) := by decide +kernel
theorem dX10_runScript_6 : decode cX10_runScript 6 = .ok (.iconst 3, 1) := by decide +kernel
theorem dX10_runScript_7 : decode cX10_runScript 7 = .ok (.if_icmp .le 14, 3) := by decide +kernel
theorem dX10_runScript_10 : decode cX10_runScript 10 = .ok (.new 47, 3) := by decide +kernel
theorem dX10_runScript_13 : decode cX10_runScript 13 = .ok (.dup, 1) := by decide +kernel
theorem dX10_runScript_14 : decode cX10_runScript 14 = .ok (.ldc_w 299, 3) := by decide +kernel
theorem dX10_runScript_17 : decode cX10_runScript 17 = .ok (.invokespecial 51, 3) := by decide +kernel
theorem dX10_runScript_20 : decode cX10_runScript 20 = .ok (.athrow, 1) := by decide +kernel
theorem dX10_runScript_21 : decode cX10_runScript 21 = .ok (.lload_n 2, 1) := by decide +kernel
theorem dX10_runScript_22 : decode cX10_runScript 22 = .ok (.lconst 0, 1) := by decide +kernel
theorem dX10_runScript_23 : decode cX10_runScript 23 = .ok (.lcmp, 1) := by decide +kernel
theorem dX10_runScript_24 : decode cX10_runScript 24 = .ok (.ifCond .lt 12, 3) := by decide +kernel
theorem dX10_runScript_27 : decode cX10_runScript 27 = .ok (.lload_n 2, 1) := by decide +kernel
theorem dX10_runScript_28 : decode cX10_runScript 28 = .ok (.iload_n 1, 1) := by decide +kernel
theorem dX10_runScript_29 : decode cX10_runScript 29 = .ok (.invokestatic 301, 3) := by decide +kernel
theorem dX10_runScript_32 : decode cX10_runScript 32 = .ok (.lcmp, 1) := by decide +kernel
theorem dX10_runScript_33 : decode cX10_runScript 33 = .ok (.ifCond .lt 14, 3) := by decide +kernel
theorem dX10_runScript_36 : decode cX10_runScript 36 = .ok (.new 47, 3) := by decide +kernel
theorem dX10_runScript_39 : decode cX10_runScript 39 = .ok (.dup, 1) := by decide +kernel
theorem dX10_runScript_40 : decode cX10_runScript 40 = .ok (.ldc_w 307, 3) := by decide +kernel
theorem dX10_runScript_43 : decode cX10_runScript 43 = .ok (.invokespecial 51, 3) := by decide +kernel
theorem dX10_runScript_46 : decode cX10_runScript 46 = .ok (.athrow, 1) := by decide +kernel
theorem dX10_runScript_47 : decode cX10_runScript 47 = .ok (.aload_n 0, 1) := by decide +kernel
theorem dX10_runScript_48 : decode cX10_runScript 48 = .ok (.getfield 23, 3) := by decide +kernel
theorem dX10_runScript_51 : decode cX10_runScript 51 = .ok (.aload_n 0, 1) := by decide +kernel
theorem dX10_runScript_52 : decode cX10_runScript 52 = .ok (.getfield 19, 3) := by decide +kernel
theorem dX10_runScript_55 : decode cX10_runScript 55 = .ok (.invokevirtual 309, 3) := by decide +kernel
theorem dX10_runScript_58 : decode cX10_runScript 58 = .ok (.iconst 0, 1) := by decide +kernel
theorem dX10_runScript_59 : decode cX10_runScript 59 = .ok (.istore 4, 2) := by decide +kernel
theorem dX10_runScript_61 : decode cX10_runScript 61 = .ok (.iload 4, 2) := by decide +kernel
theorem dX10_runScript_63 : decode cX10_runScript 63 = .ok (.iload_n 1, 1) := by decide +kernel
theorem dX10_runScript_64 : decode cX10_runScript 64 = .ok (.if_icmp .ge 29, 3) := by decide +kernel
theorem dX10_runScript_67 : decode cX10_runScript 67 = .ok (.aload_n 0, 1) := by decide +kernel
theorem dX10_runScript_68 : decode cX10_runScript 68 = .ok (.getfield 23, 3) := by decide +kernel
theorem dX10_runScript_71 : decode cX10_runScript 71 = .ok (.lload_n 2, 1) := by decide +kernel
theorem dX10_runScript_72 : decode cX10_runScript 72 = .ok (.iload_n 1, 1) := by decide +kernel
theorem dX10_runScript_73 : decode cX10_runScript 73 = .ok (.iload 4, 2) := by decide +kernel
theorem dX10_runScript_75 : decode cX10_runScript 75 = .ok (.invokestatic 312, 3) := by decide +kernel
theorem dX10_runScript_78 : decode cX10_runScript 78 = .ok (.invokestatic 316, 3) := by decide +kernel
theorem dX10_runScript_81 : decode cX10_runScript 81 = .ok (.ifCond .ne 6, 3) := by decide +kernel
theorem dX10_runScript_84 : decode cX10_runScript 84 = .ok (.iload 4, 2) := by decide +kernel
theorem dX10_runScript_86 : decode cX10_runScript 86 = .ok (.ireturn, 1) := by decide +kernel
theorem dX10_runScript_87 : decode cX10_runScript 87 = .ok (.iinc 4 1, 3) := by decide +kernel
theorem dX10_runScript_90 : decode cX10_runScript 90 = .ok (.goto (-29), 3) := by decide +kernel
theorem dX10_runScript_93 : decode cX10_runScript 93 = .ok (.iconst (-1), 1) := by decide +kernel
theorem dX10_runScript_94 : decode cX10_runScript 94 = .ok (.ireturn, 1) := by decide +kernel
theorem dX10_simulate_0 : decode cX10_simulate 0 = .ok (.iload_n 3, 1) := by decide +kernel
theorem dX10_simulate_1 : decode cX10_simulate 1 = .ok (.iconst 1, 1) := by decide +kernel
theorem dX10_simulate_2 : decode cX10_simulate 2 = .ok (.if_icmp .lt 9, 3) := by decide +kernel
theorem dX10_simulate_5 : decode cX10_simulate 5 = .ok (.iload_n 3, 1) := by decide +kernel
theorem dX10_simulate_6 : decode cX10_simulate 6 = .ok (.bipush 60, 2) := by decide +kernel
theorem dX10_simulate_8 : decode cX10_simulate 8 = .ok (.if_icmp .le 14, 3) := by decide +kernel
theorem dX10_simulate_11 : decode cX10_simulate 11 = .ok (.new 47, 3) := by decide +kernel
theorem dX10_simulate_14 : decode cX10_simulate 14 = .ok (.dup, 1) := by decide +kernel
theorem dX10_simulate_15 : decode cX10_simulate 15 = .ok (.ldc_w 320, 3) := by decide +kernel
theorem dX10_simulate_18 : decode cX10_simulate 18 = .ok (.invokespecial 51, 3) := by decide +kernel
theorem dX10_simulate_21 : decode cX10_simulate 21 = .ok (.athrow, 1) := by decide +kernel
theorem dX10_simulate_22 : decode cX10_simulate 22 = .ok (.aload_n 0, 1) := by decide +kernel
theorem dX10_simulate_23 : decode cX10_simulate 23 = .ok (.getfield 23, 3) := by decide +kernel
theorem dX10_simulate_26 : decode cX10_simulate 26 = .ok (.aload_n 0, 1) := by decide +kernel
theorem dX10_simulate_27 : decode cX10_simulate 27 = .ok (.getfield 19, 3) := by decide +kernel
theorem dX10_simulate_30 : decode cX10_simulate 30 = .ok (.invokevirtual 309, 3) := by decide +kernel
theorem dX10_simulate_33 : decode cX10_simulate 33 = .ok (.lload_n 1, 1) := by decide +kernel
theorem dX10_simulate_34 : decode cX10_simulate 34 = .ok (.lstore 4, 2) := by decide +kernel
theorem dX10_simulate_36 : decode cX10_simulate 36 = .ok (.iconst 0, 1) := by decide +kernel
theorem dX10_simulate_37 : decode cX10_simulate 37 = .ok (.istore 6, 2) := by decide +kernel
theorem dX10_simulate_39 : decode cX10_simulate 39 = .ok (.iload 6, 2) := by decide +kernel
theorem dX10_simulate_41 : decode cX10_simulate 41 = .ok (.iload_n 3, 1) := by decide +kernel
theorem dX10_simulate_42 : decode cX10_simulate 42 = .ok (.if_icmp .ge 34, 3) := by decide +kernel
theorem dX10_simulate_45 : decode cX10_simulate 45 = .ok (.lload 4, 2) := by decide +kernel
theorem dX10_simulate_47 : decode cX10_simulate 47 = .ok (.ldc2_w 322, 3) := by decide +kernel
theorem dX10_simulate_50 : decode cX10_simulate 50 = .ok (.lmul, 1) := by decide +kernel
theorem dX10_simulate_51 : decode cX10_simulate 51 = .ok (.ldc2_w 324, 3) := by decide +kernel
theorem dX10_simulate_54 : decode cX10_simulate 54 = .ok (.ladd, 1) := by decide +kernel
theorem dX10_simulate_55 : decode cX10_simulate 55 = .ok (.lstore 4, 2) := by decide +kernel
theorem dX10_simulate_57 : decode cX10_simulate 57 = .ok (.aload_n 0, 1) := by decide +kernel
theorem dX10_simulate_58 : decode cX10_simulate 58 = .ok (.getfield 23, 3) := by decide +kernel
theorem dX10_simulate_61 : decode cX10_simulate 61 = .ok (.lload 4, 2) := by decide +kernel
theorem dX10_simulate_63 : decode cX10_simulate 63 = .ok (.bipush 33, 2) := by decide +kernel
theorem dX10_simulate_65 : decode cX10_simulate 65 = .ok (.lushr, 1) := by decide +kernel
theorem dX10_simulate_66 : decode cX10_simulate 66 = .ok (.l2i, 1) := by decide +kernel
theorem dX10_simulate_67 : decode cX10_simulate 67 = .ok (.invokestatic 326, 3) := by decide +kernel
theorem dX10_simulate_70 : decode cX10_simulate 70 = .ok (.iinc 6 1, 3) := by decide +kernel
theorem dX10_simulate_73 : decode cX10_simulate 73 = .ok (.goto (-34), 3) := by decide +kernel
theorem dX10_simulate_76 : decode cX10_simulate 76 = .ok (.sipush 10000, 3) := by decide +kernel
theorem dX10_simulate_79 : decode cX10_simulate 79 = .ok (.aload_n 0, 1) := by decide +kernel
theorem dX10_simulate_80 : decode cX10_simulate 80 = .ok (.getfield 23, 3) := by decide +kernel
theorem dX10_simulate_83 : decode cX10_simulate 83 = .ok (.getfield 100, 3) := by decide +kernel
theorem dX10_simulate_86 : decode cX10_simulate 86 = .ok (.invokevirtual 332, 3) := by decide +kernel
theorem dX10_simulate_89 : decode cX10_simulate 89 = .ok (.imul, 1) := by decide +kernel
theorem dX10_simulate_90 : decode cX10_simulate 90 = .ok (.bipush 100, 2) := by decide +kernel
theorem dX10_simulate_92 : decode cX10_simulate 92 = .ok (.aload_n 0, 1) := by decide +kernel
theorem dX10_simulate_93 : decode cX10_simulate 93 = .ok (.getfield 23, 3) := by decide +kernel
theorem dX10_simulate_96 : decode cX10_simulate 96 = .ok (.getfield 91, 3) := by decide +kernel
theorem dX10_simulate_99 : decode cX10_simulate 99 = .ok (.getfield 95, 3) := by decide +kernel
theorem dX10_simulate_102 : decode cX10_simulate 102 = .ok (.imul, 1) := by decide +kernel
theorem dX10_simulate_103 : decode cX10_simulate 103 = .ok (.iadd, 1) := by decide +kernel
theorem dX10_simulate_104 : decode cX10_simulate 104 = .ok (.aload_n 0, 1) := by decide +kernel
theorem dX10_simulate_105 : decode cX10_simulate 105 = .ok (.getfield 23, 3) := by decide +kernel
theorem dX10_simulate_108 : decode cX10_simulate 108 = .ok (.getfield 117, 3) := by decide +kernel
theorem dX10_simulate_111 : decode cX10_simulate 111 = .ok (.aload_n 0, 1) := by decide +kernel
theorem dX10_simulate_112 : decode cX10_simulate 112 = .ok (.getfield 19, 3) := by decide +kernel
theorem dX10_simulate_115 : decode cX10_simulate 115 = .ok (.getfield 117, 3) := by decide +kernel
theorem dX10_simulate_118 : decode cX10_simulate 118 = .ok (.isub, 1) := by decide +kernel
theorem dX10_simulate_119 : decode cX10_simulate 119 = .ok (.iadd, 1) := by decide +kernel
theorem dX10_simulate_120 : decode cX10_simulate 120 = .ok (.ireturn, 1) := by decide +kernel
theorem dX10_save_0 : decode cX10_save 0 = .ok (.iload_n 1, 1) := by decide +kernel
theorem dX10_save_1 : decode cX10_save 1 = .ok (.invokestatic 335, 3) := by decide +kernel
theorem dX10_save_4 : decode cX10_save 4 = .ok (.aload_n 0, 1) := by decide +kernel
theorem dX10_save_5 : decode cX10_save 5 = .ok (.getfield 36, 3) := by decide +kernel
theorem dX10_save_8 : decode cX10_save 8 = .ok (.getfield 338, 3) := by decide +kernel
theorem dX10_save_11 : decode cX10_save 11 = .ok (.iload_n 1, 1) := by decide +kernel
theorem dX10_save_12 : decode cX10_save 12 = .ok (.aaload, 1) := by decide +kernel
theorem dX10_save_13 : decode cX10_save 13 = .ok (.aload_n 0, 1) := by decide +kernel
theorem dX10_save_14 : decode cX10_save 14 = .ok (.getfield 19, 3) := by decide +kernel
theorem dX10_save_17 : decode cX10_save 17 = .ok (.invokevirtual 309, 3) := by decide +kernel
theorem dX10_save_20 : decode cX10_save 20 = .ok (.aload_n 0, 1) := by decide +kernel
theorem dX10_save_21 : decode cX10_save 21 = .ok (.getfield 36, 3) := by decide +kernel
theorem dX10_save_24 : decode cX10_save 24 = .ok (.getfield 342, 3) := by decide +kernel
theorem dX10_save_27 : decode cX10_save 27 = .ok (.iload_n 1, 1) := by decide +kernel
theorem dX10_save_28 : decode cX10_save 28 = .ok (.iconst 1, 1) := by decide +kernel
theorem dX10_save_29 : decode cX10_save 29 = .ok (.bastore, 1) := by decide +kernel
theorem dX10_save_30 : decode cX10_save 30 = .ok (.aload_n 0, 1) := by decide +kernel
theorem dX10_save_31 : decode cX10_save 31 = .ok (.getfield 19, 3) := by decide +kernel
theorem dX10_save_34 : decode cX10_save 34 = .ok (.getfield 100, 3) := by decide +kernel
theorem dX10_save_37 : decode cX10_save 37 = .ok (.getfield 104, 3) := by decide +kernel
theorem dX10_save_40 : decode cX10_save 40 = .ok (.ireturn, 1) := by decide +kernel
theorem dX10_restore_0 : decode cX10_restore 0 = .ok (.iload_n 1, 1) := by decide +kernel
theorem dX10_restore_1 : decode cX10_restore 1 = .ok (.invokestatic 335, 3) := by decide +kernel
theorem dX10_restore_4 : decode cX10_restore 4 = .ok (.aload_n 0, 1) := by decide +kernel
theorem dX10_restore_5 : decode cX10_restore 5 = .ok (.getfield 36, 3) := by decide +kernel
theorem dX10_restore_8 : decode cX10_restore 8 = .ok (.getfield 342, 3) := by decide +kernel
theorem dX10_restore_11 : decode cX10_restore 11 = .ok (.iload_n 1, 1) := by decide +kernel
theorem dX10_restore_12 : decode cX10_restore 12 = .ok (.baload, 1) := by decide +kernel
theorem dX10_restore_13 : decode cX10_restore 13 = .ok (.ifCond .ne 14, 3) := by decide +kernel
theorem dX10_restore_16 : decode cX10_restore 16 = .ok (.new 58, 3) := by decide +kernel
theorem dX10_restore_19 : decode cX10_restore 19 = .ok (.dup, 1) := by decide +kernel
theorem dX10_restore_20 : decode cX10_restore 20 = .ok (.ldc_w 345, 3) := by decide +kernel
theorem dX10_restore_23 : decode cX10_restore 23 = .ok (.invokespecial 62, 3) := by decide +kernel
theorem dX10_restore_26 : decode cX10_restore 26 = .ok (.athrow, 1) := by decide +kernel
theorem dX10_restore_27 : decode cX10_restore 27 = .ok (.aload_n 0, 1) := by decide +kernel
theorem dX10_restore_28 : decode cX10_restore 28 = .ok (.getfield 19, 3) := by decide +kernel
theorem dX10_restore_31 : decode cX10_restore 31 = .ok (.aload_n 0, 1) := by decide +kernel
theorem dX10_restore_32 : decode cX10_restore 32 = .ok (.getfield 36, 3) := by decide +kernel
theorem dX10_restore_35 : decode cX10_restore 35 = .ok (.getfield 338, 3) := by decide +kernel
theorem dX10_restore_38 : decode cX10_restore 38 = .ok (.iload_n 1, 1) := by decide +kernel
theorem dX10_restore_39 : decode cX10_restore 39 = .ok (.aaload, 1) := by decide +kernel
theorem dX10_restore_40 : decode cX10_restore 40 = .ok (.invokevirtual 309, 3) := by decide +kernel
theorem dX10_restore_43 : decode cX10_restore 43 = .ok (.aload_n 0, 1) := by decide +kernel
theorem dX10_restore_44 : decode cX10_restore 44 = .ok (.getfield 29, 3) := by decide +kernel
theorem dX10_restore_47 : decode cX10_restore 47 = .ok (.invokevirtual 76, 3) := by decide +kernel
theorem dX10_restore_50 : decode cX10_restore 50 = .ok (.aload_n 0, 1) := by decide +kernel
theorem dX10_restore_51 : decode cX10_restore 51 = .ok (.getfield 19, 3) := by decide +kernel
theorem dX10_restore_54 : decode cX10_restore 54 = .ok (.getfield 100, 3) := by decide +kernel
theorem dX10_restore_57 : decode cX10_restore 57 = .ok (.getfield 104, 3) := by decide +kernel
theorem dX10_restore_60 : decode cX10_restore 60 = .ok (.ireturn, 1) := by decide +kernel
theorem dX10_requirePerson_0 : decode cX10_requirePerson 0 = .ok (.aload_n 0, 1) := by decide +kernel
theorem dX10_requirePerson_1 : decode cX10_requirePerson 1 = .ok (.getfield 19, 3) := by decide +kernel
theorem dX10_requirePerson_4 : decode cX10_requirePerson 4 = .ok (.getfield 91, 3) := by decide +kernel
theorem dX10_requirePerson_7 : decode cX10_requirePerson 7 = .ok (.iload_n 1, 1) := by decide +kernel
theorem dX10_requirePerson_8 : decode cX10_requirePerson 8 = .ok (.invokevirtual 347, 3) := by decide +kernel
theorem dX10_requirePerson_11 : decode cX10_requirePerson 11 = .ok (.ifCond .ne 14, 3) := by decide +kernel
theorem dX10_requirePerson_14 : decode cX10_requirePerson 14 = .ok (.new 195, 3) := by decide +kernel
theorem dX10_requirePerson_17 : decode cX10_requirePerson 17 = .ok (.dup, 1) := by decide +kernel
theorem dX10_requirePerson_18 : decode cX10_requirePerson 18 = .ok (.ldc_w 350, 3) := by decide +kernel
theorem dX10_requirePerson_21 : decode cX10_requirePerson 21 = .ok (.invokespecial 199, 3) := by decide +kernel
theorem dX10_requirePerson_24 : decode cX10_requirePerson 24 = .ok (.athrow, 1) := by decide +kernel
theorem dX10_requirePerson_25 : decode cX10_requirePerson 25 = .ok (.return_, 1) := by decide +kernel
theorem dX10_requireName_0 : decode cX10_requireName 0 = .ok (.aload_n 0, 1) := by decide +kernel
theorem dX10_requireName_1 : decode cX10_requireName 1 = .ok (.getfield 19, 3) := by decide +kernel
theorem dX10_requireName_4 : decode cX10_requireName 4 = .ok (.getfield 100, 3) := by decide +kernel
theorem dX10_requireName_7 : decode cX10_requireName 7 = .ok (.iload_n 1, 1) := by decide +kernel
theorem dX10_requireName_8 : decode cX10_requireName 8 = .ok (.invokevirtual 352, 3) := by decide +kernel
theorem dX10_requireName_11 : decode cX10_requireName 11 = .ok (.ifCond .ne 14, 3) := by decide +kernel
theorem dX10_requireName_14 : decode cX10_requireName 14 = .ok (.new 195, 3) := by decide +kernel
theorem dX10_requireName_17 : decode cX10_requireName 17 = .ok (.dup, 1) := by decide +kernel
theorem dX10_requireName_18 : decode cX10_requireName 18 = .ok (.ldc_w 353, 3) := by decide +kernel
theorem dX10_requireName_21 : decode cX10_requireName 21 = .ok (.invokespecial 199, 3) := by decide +kernel
theorem dX10_requireName_24 : decode cX10_requireName 24 = .ok (.athrow, 1) := by decide +kernel
theorem dX10_requireName_25 : decode cX10_requireName 25 = .ok (.return_, 1) := by decide +kernel
theorem dX10_requireBench_0 : decode cX10_requireBench 0 = .ok (.iload_n 0, 1) := by decide +kernel
theorem dX10_requireBench_1 : decode cX10_requireBench 1 = .ok (.invokestatic 355, 3) := by decide +kernel
theorem dX10_requireBench_4 : decode cX10_requireBench 4 = .ok (.ifCond .ne 14, 3) := by decide +kernel
theorem dX10_requireBench_7 : decode cX10_requireBench 7 = .ok (.new 195, 3) := by decide +kernel
theorem dX10_requireBench_10 : decode cX10_requireBench 10 = .ok (.dup, 1) := by decide +kernel
theorem dX10_requireBench_11 : decode cX10_requireBench 11 = .ok (.ldc_w 358, 3) := by decide +kernel
theorem dX10_requireBench_14 : decode cX10_requireBench 14 = .ok (.invokespecial 199, 3) := by decide +kernel
theorem dX10_requireBench_17 : decode cX10_requireBench 17 = .ok (.athrow, 1) := by decide +kernel
theorem dX10_requireBench_18 : decode cX10_requireBench 18 = .ok (.return_, 1) := by decide +kernel
theorem dX10_requireCode_0 : decode cX10_requireCode 0 = .ok (.iload_n 0, 1) := by decide +kernel
theorem dX10_requireCode_1 : decode cX10_requireCode 1 = .ok (.iload_n 1, 1) := by decide +kernel
theorem dX10_requireCode_2 : decode cX10_requireCode 2 = .ok (.invokestatic 360, 3) := by decide +kernel
theorem dX10_requireCode_5 : decode cX10_requireCode 5 = .ok (.ifCond .ne 14, 3) := by decide +kernel
theorem dX10_requireCode_8 : decode cX10_requireCode 8 = .ok (.new 47, 3) := by decide +kernel
theorem dX10_requireCode_11 : decode cX10_requireCode 11 = .ok (.dup, 1) := by decide +kernel
theorem dX10_requireCode_12 : decode cX10_requireCode 12 = .ok (.ldc_w 363, 3) := by decide +kernel
theorem dX10_requireCode_15 : decode cX10_requireCode 15 = .ok (.invokespecial 51, 3) := by decide +kernel
theorem dX10_requireCode_18 : decode cX10_requireCode 18 = .ok (.athrow, 1) := by decide +kernel
theorem dX10_requireCode_19 : decode cX10_requireCode 19 = .ok (.return_, 1) := by decide +kernel
theorem dX10_requireSlot_0 : decode cX10_requireSlot 0 = .ok (.iload_n 0, 1) := by decide +kernel
theorem dX10_requireSlot_1 : decode cX10_requireSlot 1 = .ok (.ifCond .lt 8, 3) := by decide +kernel
theorem dX10_requireSlot_4 : decode cX10_requireSlot 4 = .ok (.iload_n 0, 1) := by decide +kernel
theorem dX10_requireSlot_5 : decode cX10_requireSlot 5 = .ok (.iconst 2, 1) := by decide +kernel
theorem dX10_requireSlot_6 : decode cX10_requireSlot 6 = .ok (.if_icmp .lt 14, 3) := by decide +kernel
theorem dX10_requireSlot_9 : decode cX10_requireSlot 9 = .ok (.new 195, 3) := by decide +kernel
theorem dX10_requireSlot_12 : decode cX10_requireSlot 12 = .ok (.dup, 1) := by decide +kernel
theorem dX10_requireSlot_13 : decode cX10_requireSlot 13 = .ok (.ldc_w 365, 3) := by decide +kernel
theorem dX10_requireSlot_16 : decode cX10_requireSlot 16 = .ok (.invokespecial 199, 3) := by decide +kernel
theorem dX10_requireSlot_19 : decode cX10_requireSlot 19 = .ok (.athrow, 1) := by decide +kernel
theorem dX10_requireSlot_20 : decode cX10_requireSlot 20 = .ok (.return_, 1) := by decide +kernel
theorem dX10_isBench_0 : decode cX10_isBench 0 = .ok (.iload_n 0, 1) := by decide +kernel
theorem dX10_isBench_1 : decode cX10_isBench 1 = .ok (.ifCond .lt 12, 3) := by decide +kernel
theorem dX10_isBench_4 : decode cX10_isBench 4 = .ok (.iload_n 0, 1) := by decide +kernel
theorem dX10_isBench_5 : decode cX10_isBench 5 = .ok (.iconst 4, 1) := by decide +kernel
theorem dX10_isBench_6 : decode cX10_isBench 6 = .ok (.if_icmp .ge 7, 3) := by decide +kernel
theorem dX10_isBench_9 : decode cX10_isBench 9 = .ok (.iconst 1, 1) := by decide +kernel
theorem dX10_isBench_10 : decode cX10_isBench 10 = .ok (.goto 4, 3) := by decide +kernel
theorem dX10_isBench_13 : decode cX10_isBench 13 = .ok (.iconst 0, 1) := by decide +kernel
theorem dX10_isBench_14 : decode cX10_isBench 14 = .ok (.ireturn, 1) := by decide +kernel
theorem dX10_isFamily_0 : decode cX10_isFamily 0 = .ok (.iload_n 0, 1) := by decide +kernel
theorem dX10_isFamily_1 : decode cX10_isFamily 1 = .ok (.ifCond .lt 13, 3) := by decide +kernel
theorem dX10_isFamily_4 : decode cX10_isFamily 4 = .ok (.iload_n 0, 1) := by decide +kernel
theorem dX10_isFamily_5 : decode cX10_isFamily 5 = .ok (.bipush 6, 2) := by decide +kernel
theorem dX10_isFamily_7 : decode cX10_isFamily 7 = .ok (.if_icmp .ge 7, 3) := by decide +kernel
theorem dX10_isFamily_10 : decode cX10_isFamily 10 = .ok (.iconst 1, 1) := by decide +kernel
theorem dX10_isFamily_11 : decode cX10_isFamily 11 = .ok (.goto 4, 3) := by decide +kernel
theorem dX10_isFamily_14 : decode cX10_isFamily 14 = .ok (.iconst 0, 1) := by decide +kernel
theorem dX10_isFamily_15 : decode cX10_isFamily 15 = .ok (.ireturn, 1) := by decide +kernel
theorem dX10_isAgeToCome_0 : decode cX10_isAgeToCome 0 = .ok (.iload_n 0, 1) := by decide +kernel
theorem dX10_isAgeToCome_1 : decode cX10_isAgeToCome 1 = .ok (.ifCond .lt 13, 3) := by decide +kernel
theorem dX10_isAgeToCome_4 : decode cX10_isAgeToCome 4 = .ok (.iload_n 0, 1) := by decide +kernel
theorem dX10_isAgeToCome_5 : decode cX10_isAgeToCome 5 = .ok (.bipush 99, 2) := by decide +kernel
theorem dX10_isAgeToCome_7 : decode cX10_isAgeToCome 7 = .ok (.if_icmp .gt 7, 3) := by decide +kernel
theorem dX10_isAgeToCome_10 : decode cX10_isAgeToCome 10 = .ok (.iconst 1, 1) := by decide +kernel
theorem dX10_isAgeToCome_11 : decode cX10_isAgeToCome 11 = .ok (.goto 4, 3) := by decide +kernel
theorem dX10_isAgeToCome_14 : decode cX10_isAgeToCome 14 = .ok (.iconst 0, 1) := by decide +kernel
theorem dX10_isAgeToCome_15 : decode cX10_isAgeToCome 15 = .ok (.ireturn, 1) := by decide +kernel
theorem dX10_isYearsAtOnce_0 : decode cX10_isYearsAtOnce 0 = .ok (.iload_n 0, 1) := by decide +kernel
theorem dX10_isYearsAtOnce_1 : decode cX10_isYearsAtOnce 1 = .ok (.iconst 1, 1) := by decide +kernel
theorem dX10_isYearsAtOnce_2 : decode cX10_isYearsAtOnce 2 = .ok (.if_icmp .lt 13, 3) := by decide +kernel
theorem dX10_isYearsAtOnce_5 : decode cX10_isYearsAtOnce 5 = .ok (.iload_n 0, 1) := by decide +kernel
theorem dX10_isYearsAtOnce_6 : decode cX10_isYearsAtOnce 6 = .ok (.bipush 9, 2) := by decide +kernel
theorem dX10_isYearsAtOnce_8 : decode cX10_isYearsAtOnce 8 = .ok (.if_icmp .gt 7, 3) := by decide +kernel
theorem dX10_isYearsAtOnce_11 : decode cX10_isYearsAtOnce 11 = .ok (.iconst 1, 1) := by decide +kernel
theorem dX10_isYearsAtOnce_12 : decode cX10_isYearsAtOnce 12 = .ok (.goto 4, 3) := by decide +kernel
theorem dX10_isYearsAtOnce_15 : decode cX10_isYearsAtOnce 15 = .ok (.iconst 0, 1) := by decide +kernel
theorem dX10_isYearsAtOnce_16 : decode cX10_isYearsAtOnce 16 = .ok (.ireturn, 1) := by decide +kernel
theorem dX10_isSettingWith_0 : decode cX10_isSettingWith 0 = .ok (.iload_n 0, 1) := by decide +kernel
theorem dX10_isSettingWith_1 : decode cX10_isSettingWith 1 = .ok (.ifCond .lt 8, 3) := by decide +kernel
theorem dX10_isSettingWith_4 : decode cX10_isSettingWith 4 = .ok (.iload_n 0, 1) := by decide +kernel
theorem dX10_isSettingWith_5 : decode cX10_isSettingWith 5 = .ok (.iconst 3, 1) := by decide +kernel
theorem dX10_isSettingWith_6 : decode cX10_isSettingWith 6 = .ok (.if_icmp .lt 5, 3) := by decide +kernel
theorem dX10_isSettingWith_9 : decode cX10_isSettingWith 9 = .ok (.iconst 0, 1) := by decide +kernel
theorem dX10_isSettingWith_10 : decode cX10_isSettingWith 10 = .ok (.ireturn, 1) := by decide +kernel
theorem dX10_isSettingWith_11 : decode cX10_isSettingWith 11 = .ok (.iload_n 0, 1) := by decide +kernel
theorem dX10_isSettingWith_12 : decode cX10_isSettingWith 12 = .ok (.iconst 2, 1) := by decide +kernel
theorem dX10_isSettingWith_13 : decode cX10_isSettingWith 13 = .ok (.if_icmp .ne 7, 3) := by decide +kernel
theorem dX10_isSettingWith_16 : decode cX10_isSettingWith 16 = .ok (.iconst 0, 1) := by decide +kernel
theorem dX10_isSettingWith_17 : decode cX10_isSettingWith 17 = .ok (.goto 4, 3) := by decide +kernel
theorem dX10_isSettingWith_20 : decode cX10_isSettingWith 20 = .ok (.iconst 1, 1) := by decide +kernel
theorem dX10_isSettingWith_21 : decode cX10_isSettingWith 21 = .ok (.istore_n 2, 1) := by decide +kernel
theorem dX10_isSettingWith_22 : decode cX10_isSettingWith 22 = .ok (.iload_n 1, 1) := by decide +kernel
theorem dX10_isSettingWith_23 : decode cX10_isSettingWith 23 = .ok (.iload_n 2, 1) := by decide +kernel
theorem dX10_isSettingWith_24 : decode cX10_isSettingWith 24 = .ok (.if_icmp .lt 13, 3) := by decide +kernel
theorem dX10_isSettingWith_27 : decode cX10_isSettingWith 27 = .ok (.iload_n 1, 1) := by decide +kernel
theorem dX10_isSettingWith_28 : decode cX10_isSettingWith 28 = .ok (.bipush 9, 2) := by decide +kernel
theorem dX10_isSettingWith_30 : decode cX10_isSettingWith 30 = .ok (.if_icmp .gt 7, 3) := by decide +kernel
theorem dX10_isSettingWith_33 : decode cX10_isSettingWith 33 = .ok (.iconst 1, 1) := by decide +kernel
theorem dX10_isSettingWith_34 : decode cX10_isSettingWith 34 = .ok (.goto 4, 3) := by decide +kernel
theorem dX10_isSettingWith_37 : decode cX10_isSettingWith 37 = .ok (.iconst 0, 1) := by decide +kernel
theorem dX10_isSettingWith_38 : decode cX10_isSettingWith 38 = .ok (.ireturn, 1) := by decide +kernel
theorem dL_draw_0 : decode cL_draw 0 = .ok (.iload_n 1, 1) := by decide +kernel
theorem dL_draw_1 : decode cL_draw 1 = .ok (.aload_n 0, 1) := by decide +kernel
theorem dL_draw_2 : decode cL_draw 2 = .ok (.arraylength, 1) := by decide +kernel
theorem dL_draw_3 : decode cL_draw 3 = .ok (.if_icmp .ge 9, 3) := by decide +kernel
theorem dL_draw_6 : decode cL_draw 6 = .ok (.aload_n 0, 1) := by decide +kernel
theorem dL_draw_7 : decode cL_draw 7 = .ok (.iload_n 1, 1) := by decide +kernel
theorem dL_draw_8 : decode cL_draw 8 = .ok (.iaload, 1) := by decide +kernel
theorem dL_draw_9 : decode cL_draw 9 = .ok (.goto 11, 3) := by decide +kernel
theorem dL_draw_12 : decode cL_draw 12 = .ok (.ldc 7, 2) := by decide +kernel
theorem dL_draw_14 : decode cL_draw 14 = .ok (.iload_n 1, 1) := by decide +kernel
theorem dL_draw_15 : decode cL_draw 15 = .ok (.imul, 1) := by decide +kernel
theorem dL_draw_16 : decode cL_draw 16 = .ok (.sipush 10859, 3) := by decide +kernel
theorem dL_draw_19 : decode cL_draw 19 = .ok (.iadd, 1) := by decide +kernel
theorem dL_draw_20 : decode cL_draw 20 = .ok (.ldc 8, 2) := by decide +kernel
theorem dL_draw_22 : decode cL_draw 22 = .ok (.iand, 1) := by decide +kernel
theorem dL_draw_23 : decode cL_draw 23 = .ok (.ireturn, 1) := by decide +kernel
theorem dL_in_0 : decode cL_in 0 = .ok (.lload_n 0, 1) := by decide +kernel
theorem dL_in_1 : decode cL_in 1 = .ok (.lload_n 2, 1) := by decide +kernel
theorem dL_in_2 : decode cL_in 2 = .ok (.lcmp, 1) := by decide +kernel
theorem dL_in_3 : decode cL_in 3 = .ok (.ifCond .lt 14, 3) := by decide +kernel
theorem dL_in_6 : decode cL_in 6 = .ok (.lload_n 0, 1) := by decide +kernel
theorem dL_in_7 : decode cL_in 7 = .ok (.lload 4, 2) := by decide +kernel
theorem dL_in_9 : decode cL_in 9 = .ok (.lcmp, 1) := by decide +kernel
theorem dL_in_10 : decode cL_in 10 = .ok (.ifCond .gt 7, 3) := by decide +kernel
theorem dL_in_13 : decode cL_in 13 = .ok (.iconst 1, 1) := by decide +kernel
theorem dL_in_14 : decode cL_in 14 = .ok (.goto 4, 3) := by decide +kernel
theorem dL_in_17 : decode cL_in 17 = .ok (.iconst 0, 1) := by decide +kernel
theorem dL_in_18 : decode cL_in 18 = .ok (.ireturn, 1) := by decide +kernel
theorem dL_append_0 : decode cL_append 0 = .ok (.aload_n 0, 1) := by decide +kernel
theorem dL_append_1 : decode cL_append 1 = .ok (.iload_n 1, 1) := by decide +kernel
theorem dL_append_2 : decode cL_append 2 = .ok (.invokevirtual 9, 3) := by decide +kernel
theorem dL_append_5 : decode cL_append 5 = .ok (.i2l, 1) := by decide +kernel
theorem dL_append_6 : decode cL_append 6 = .ok (.lreturn, 1) := by decide +kernel
theorem dL_append_7 : decode cL_append 7 = .ok (.astore_n 2, 1) := by decide +kernel
theorem dL_append_8 : decode cL_append 8 = .ok (.ldc2_w 17, 3) := by decide +kernel
theorem dL_append_11 : decode cL_append 11 = .ok (.lreturn, 1) := by decide +kernel
theorem dL_append_12 : decode cL_append 12 = .ok (.astore_n 2, 1) := by decide +kernel
theorem dL_append_13 : decode cL_append 13 = .ok (.ldc2_w 21, 3) := by decide +kernel
theorem dL_append_16 : decode cL_append 16 = .ok (.lreturn, 1) := by decide +kernel
theorem dL_load_0 : decode cL_load 0 = .ok (.aload_n 0, 1) := by decide +kernel
theorem dL_load_1 : decode cL_load 1 = .ok (.invokevirtual 23, 3) := by decide +kernel
theorem dL_load_4 : decode cL_load 4 = .ok (.i2l, 1) := by decide +kernel
theorem dL_load_5 : decode cL_load 5 = .ok (.lreturn, 1) := by decide +kernel
theorem dL_load_6 : decode cL_load 6 = .ok (.astore_n 1, 1) := by decide +kernel
theorem dL_load_7 : decode cL_load 7 = .ok (.ldc2_w 21, 3) := by decide +kernel
theorem dL_load_10 : decode cL_load 10 = .ok (.lreturn, 1) := by decide +kernel
theorem dL_about_0 : decode cL_about 0 = .ok (.aload_n 0, 1) := by decide +kernel
theorem dL_about_1 : decode cL_about 1 = .ok (.iload_n 1, 1) := by decide +kernel
theorem dL_about_2 : decode cL_about 2 = .ok (.invokevirtual 27, 3) := by decide +kernel
theorem dL_about_5 : decode cL_about 5 = .ok (.i2l, 1) := by decide +kernel
theorem dL_about_6 : decode cL_about 6 = .ok (.lreturn, 1) := by decide +kernel
theorem dL_about_7 : decode cL_about 7 = .ok (.astore_n 2, 1) := by decide +kernel
theorem dL_about_8 : decode cL_about 8 = .ok (.ldc2_w 17, 3) := by decide +kernel
theorem dL_about_11 : decode cL_about 11 = .ok (.lreturn, 1) := by decide +kernel
theorem dL_personOf_0 : decode cL_personOf 0 = .ok (.aload_n 0, 1) := by decide +kernel
theorem dL_personOf_1 : decode cL_personOf 1 = .ok (.iload_n 1, 1) := by decide +kernel
theorem dL_personOf_2 : decode cL_personOf 2 = .ok (.iload_n 2, 1) := by decide +kernel
theorem dL_personOf_3 : decode cL_personOf 3 = .ok (.invokevirtual 30, 3) := by decide +kernel
theorem dL_personOf_6 : decode cL_personOf 6 = .ok (.i2l, 1) := by decide +kernel
theorem dL_personOf_7 : decode cL_personOf 7 = .ok (.lreturn, 1) := by decide +kernel
theorem dL_personOf_8 : decode cL_personOf 8 = .ok (.astore_n 3, 1) := by decide +kernel
theorem dL_personOf_9 : decode cL_personOf 9 = .ok (.ldc2_w 36, 3) := by decide +kernel
theorem dL_personOf_12 : decode cL_personOf 12 = .ok (.lreturn, 1) := by decide +kernel
theorem dL_personOf_13 : decode cL_personOf 13 = .ok (.astore_n 3, 1) := by decide +kernel
theorem dL_personOf_14 : decode cL_personOf 14 = .ok (.ldc2_w 17, 3) := by decide +kernel
theorem dL_personOf_17 : decode cL_personOf 17 = .ok (.lreturn, 1) := by decide +kernel
theorem dL_nameOf_0 : decode cL_nameOf 0 = .ok (.aload_n 0, 1) := by decide +kernel
theorem dL_nameOf_1 : decode cL_nameOf 1 = .ok (.iload_n 1, 1) := by decide +kernel
theorem dL_nameOf_2 : decode cL_nameOf 2 = .ok (.iload_n 2, 1) := by decide +kernel
theorem dL_nameOf_3 : decode cL_nameOf 3 = .ok (.invokevirtual 38, 3) := by decide +kernel
theorem dL_nameOf_6 : decode cL_nameOf 6 = .ok (.i2l, 1) := by decide +kernel
theorem dL_nameOf_7 : decode cL_nameOf 7 = .ok (.lreturn, 1) := by decide +kernel
theorem dL_nameOf_8 : decode cL_nameOf 8 = .ok (.astore_n 3, 1) := by decide +kernel
theorem dL_nameOf_9 : decode cL_nameOf 9 = .ok (.ldc2_w 36, 3) := by decide +kernel
theorem dL_nameOf_12 : decode cL_nameOf 12 = .ok (.lreturn, 1) := by decide +kernel
theorem dL_nameOf_13 : decode cL_nameOf 13 = .ok (.astore_n 3, 1) := by decide +kernel
theorem dL_nameOf_14 : decode cL_nameOf 14 = .ok (.ldc2_w 17, 3) := by decide +kernel
theorem dL_nameOf_17 : decode cL_nameOf 17 = .ok (.lreturn, 1) := by decide +kernel
theorem dL_letter_0 : decode cL_letter 0 = .ok (.aload_n 0, 1) := by decide +kernel
theorem dL_letter_1 : decode cL_letter 1 = .ok (.iload_n 1, 1) := by decide +kernel
theorem dL_letter_2 : decode cL_letter 2 = .ok (.iload_n 2, 1) := by decide +kernel
theorem dL_letter_3 : decode cL_letter 3 = .ok (.invokevirtual 41, 3) := by decide +kernel
theorem dL_letter_6 : decode cL_letter 6 = .ok (.i2l, 1) := by decide +kernel
theorem dL_letter_7 : decode cL_letter 7 = .ok (.lreturn, 1) := by decide +kernel
theorem dL_letter_8 : decode cL_letter 8 = .ok (.astore_n 3, 1) := by decide +kernel
theorem dL_letter_9 : decode cL_letter 9 = .ok (.ldc2_w 36, 3) := by decide +kernel
theorem dL_letter_12 : decode cL_letter 12 = .ok (.lreturn, 1) := by decide +kernel
theorem dL_roll_0 : decode cL_roll 0 = .ok (.aload_n 0, 1) := by decide +kernel
theorem dL_roll_1 : decode cL_roll 1 = .ok (.iload_n 1, 1) := by decide +kernel
theorem dL_roll_2 : decode cL_roll 2 = .ok (.invokevirtual 44, 3) := by decide +kernel
theorem dL_roll_5 : decode cL_roll 5 = .ok (.i2l, 1) := by decide +kernel
theorem dL_roll_6 : decode cL_roll 6 = .ok (.lreturn, 1) := by decide +kernel
theorem dL_roll_7 : decode cL_roll 7 = .ok (.astore_n 2, 1) := by decide +kernel
theorem dL_roll_8 : decode cL_roll 8 = .ok (.ldc2_w 17, 3) := by decide +kernel
theorem dL_roll_11 : decode cL_roll 11 = .ok (.lreturn, 1) := by decide +kernel
theorem dL_meant_0 : decode cL_meant 0 = .ok (.aload_n 0, 1) := by decide +kernel
theorem dL_meant_1 : decode cL_meant 1 = .ok (.iload_n 1, 1) := by decide +kernel
theorem dL_meant_2 : decode cL_meant 2 = .ok (.iload_n 2, 1) := by decide +kernel
theorem dL_meant_3 : decode cL_meant 3 = .ok (.iload_n 3, 1) := by decide +kernel
theorem dL_meant_4 : decode cL_meant 4 = .ok (.iload 4, 2) := by decide +kernel
theorem dL_meant_6 : decode cL_meant 6 = .ok (.invokevirtual 47, 3) := by decide +kernel
theorem dL_meant_9 : decode cL_meant 9 = .ok (.i2l, 1) := by decide +kernel
theorem dL_meant_10 : decode cL_meant 10 = .ok (.lreturn, 1) := by decide +kernel
theorem dL_meant_11 : decode cL_meant 11 = .ok (.astore 5, 2) := by decide +kernel
theorem dL_meant_13 : decode cL_meant 13 = .ok (.ldc2_w 36, 3) := by decide +kernel
theorem dL_meant_16 : decode cL_meant 16 = .ok (.lreturn, 1) := by decide +kernel
theorem dL_meant_17 : decode cL_meant 17 = .ok (.astore 5, 2) := by decide +kernel
theorem dL_meant_19 : decode cL_meant 19 = .ok (.ldc2_w 17, 3) := by decide +kernel
theorem dL_meant_22 : decode cL_meant 22 = .ok (.lreturn, 1) := by decide +kernel
theorem dL_person_0 : decode cL_person 0 = .ok (.aload_n 0, 1) := by decide +kernel
theorem dL_person_1 : decode cL_person 1 = .ok (.iload_n 1, 1) := by decide +kernel
theorem dL_person_2 : decode cL_person 2 = .ok (.iload_n 2, 1) := by decide +kernel
theorem dL_person_3 : decode cL_person 3 = .ok (.iload_n 3, 1) := by decide +kernel
theorem dL_person_4 : decode cL_person 4 = .ok (.invokevirtual 51, 3) := by decide +kernel
theorem dL_person_7 : decode cL_person 7 = .ok (.i2l, 1) := by decide +kernel
theorem dL_person_8 : decode cL_person 8 = .ok (.lreturn, 1) := by decide +kernel
theorem dL_person_9 : decode cL_person 9 = .ok (.astore 4, 2) := by decide +kernel
theorem dL_person_11 : decode cL_person 11 = .ok (.ldc2_w 36, 3) := by decide +kernel
theorem dL_person_14 : decode cL_person 14 = .ok (.lreturn, 1) := by decide +kernel
theorem dL_person_15 : decode cL_person 15 = .ok (.astore 4, 2) := by decide +kernel
theorem dL_person_17 : decode cL_person 17 = .ok (.ldc2_w 17, 3) := by decide +kernel
theorem dL_person_20 : decode cL_person 20 = .ok (.lreturn, 1) := by decide +kernel
theorem dL_person_21 : decode cL_person 21 = .ok (.astore 4, 2) := by decide +kernel
theorem dL_person_23 : decode cL_person 23 = .ok (.ldc2_w 21, 3) := by decide +kernel
theorem dL_person_26 : decode cL_person 26 = .ok (.lreturn, 1) := by decide +kernel
theorem dL_sit_0 : decode cL_sit 0 = .ok (.aload_n 0, 1) := by decide +kernel
theorem dL_sit_1 : decode cL_sit 1 = .ok (.iload_n 1, 1) := by decide +kernel
theorem dL_sit_2 : decode cL_sit 2 = .ok (.iload_n 2, 1) := by decide +kernel
theorem dL_sit_3 : decode cL_sit 3 = .ok (.invokevirtual 55, 3) := by decide +kernel
theorem dL_sit_6 : decode cL_sit 6 = .ok (.i2l, 1) := by decide +kernel
theorem dL_sit_7 : decode cL_sit 7 = .ok (.lreturn, 1) := by decide +kernel
theorem dL_sit_8 : decode cL_sit 8 = .ok (.astore_n 3, 1) := by decide +kernel
theorem dL_sit_9 : decode cL_sit 9 = .ok (.ldc2_w 36, 3) := by decide +kernel
theorem dL_sit_12 : decode cL_sit 12 = .ok (.lreturn, 1) := by decide +kernel
theorem dL_sit_13 : decode cL_sit 13 = .ok (.astore_n 3, 1) := by decide +kernel
theorem dL_sit_14 : decode cL_sit 14 = .ok (.ldc2_w 21, 3) := by decide +kernel
theorem dL_sit_17 : decode cL_sit 17 = .ok (.lreturn, 1) := by decide +kernel
theorem dL_give_0 : decode cL_give 0 = .ok (.aload_n 0, 1) := by decide +kernel
theorem dL_give_1 : decode cL_give 1 = .ok (.iload_n 1, 1) := by decide +kernel
theorem dL_give_2 : decode cL_give 2 = .ok (.iload_n 2, 1) := by decide +kernel
theorem dL_give_3 : decode cL_give 3 = .ok (.iload_n 3, 1) := by decide +kernel
theorem dL_give_4 : decode cL_give 4 = .ok (.iload 4, 2) := by decide +kernel
theorem dL_give_6 : decode cL_give 6 = .ok (.invokevirtual 58, 3) := by decide +kernel
theorem dL_give_9 : decode cL_give 9 = .ok (.i2l, 1) := by decide +kernel
theorem dL_give_10 : decode cL_give 10 = .ok (.lreturn, 1) := by decide +kernel
theorem dL_give_11 : decode cL_give 11 = .ok (.astore 5, 2) := by decide +kernel
theorem dL_give_13 : decode cL_give 13 = .ok (.ldc2_w 36, 3) := by decide +kernel
theorem dL_give_16 : decode cL_give 16 = .ok (.lreturn, 1) := by decide +kernel
theorem dL_give_17 : decode cL_give 17 = .ok (.astore 5, 2) := by decide +kernel
theorem dL_give_19 : decode cL_give 19 = .ok (.ldc2_w 17, 3) := by decide +kernel
theorem dL_give_22 : decode cL_give 22 = .ok (.lreturn, 1) := by decide +kernel
theorem dL_call_0 : decode cL_call 0 = .ok (.aload_n 0, 1) := by decide +kernel
theorem dL_call_1 : decode cL_call 1 = .ok (.iload_n 1, 1) := by decide +kernel
theorem dL_call_2 : decode cL_call 2 = .ok (.iload_n 2, 1) := by decide +kernel
theorem dL_call_3 : decode cL_call 3 = .ok (.iload_n 3, 1) := by decide +kernel
theorem dL_call_4 : decode cL_call 4 = .ok (.invokevirtual 61, 3) := by decide +kernel
theorem dL_call_7 : decode cL_call 7 = .ok (.i2l, 1) := by decide +kernel
theorem dL_call_8 : decode cL_call 8 = .ok (.lreturn, 1) := by decide +kernel
theorem dL_call_9 : decode cL_call 9 = .ok (.astore 4, 2) := by decide +kernel
theorem dL_call_11 : decode cL_call 11 = .ok (.ldc2_w 36, 3) := by decide +kernel
theorem dL_call_14 : decode cL_call 14 = .ok (.lreturn, 1) := by decide +kernel
theorem dL_call_15 : decode cL_call 15 = .ok (.astore 4, 2) := by decide +kernel
theorem dL_call_17 : decode cL_call 17 = .ok (.ldc2_w 17, 3) := by decide +kernel
theorem dL_call_20 : decode cL_call 20 = .ok (.lreturn, 1) := by decide +kernel
theorem dL_years_0 : decode cL_years 0 = .ok (.aload_n 0, 1) := by decide +kernel
theorem dL_years_1 : decode cL_years 1 = .ok (.iload_n 1, 1) := by decide +kernel
theorem dL_years_2 : decode cL_years 2 = .ok (.invokevirtual 64, 3) := by decide +kernel
theorem dL_years_5 : decode cL_years 5 = .ok (.i2l, 1) := by decide +kernel
theorem dL_years_6 : decode cL_years 6 = .ok (.lreturn, 1) := by decide +kernel
theorem dL_years_7 : decode cL_years 7 = .ok (.astore_n 2, 1) := by decide +kernel
theorem dL_years_8 : decode cL_years 8 = .ok (.ldc2_w 17, 3) := by decide +kernel
theorem dL_years_11 : decode cL_years 11 = .ok (.lreturn, 1) := by decide +kernel
theorem dL_years_12 : decode cL_years 12 = .ok (.astore_n 2, 1) := by decide +kernel
theorem dL_years_13 : decode cL_years 13 = .ok (.ldc2_w 21, 3) := by decide +kernel
theorem dL_years_16 : decode cL_years 16 = .ok (.lreturn, 1) := by decide +kernel
theorem dL_set_0 : decode cL_set 0 = .ok (.aload_n 0, 1) := by decide +kernel
theorem dL_set_1 : decode cL_set 1 = .ok (.iload_n 1, 1) := by decide +kernel
theorem dL_set_2 : decode cL_set 2 = .ok (.iload_n 2, 1) := by decide +kernel
theorem dL_set_3 : decode cL_set 3 = .ok (.invokevirtual 67, 3) := by decide +kernel
theorem dL_set_6 : decode cL_set 6 = .ok (.i2l, 1) := by decide +kernel
theorem dL_set_7 : decode cL_set 7 = .ok (.lreturn, 1) := by decide +kernel
theorem dL_set_8 : decode cL_set 8 = .ok (.astore_n 3, 1) := by decide +kernel
theorem dL_set_9 : decode cL_set 9 = .ok (.ldc2_w 17, 3) := by decide +kernel
theorem dL_set_12 : decode cL_set 12 = .ok (.lreturn, 1) := by decide +kernel
theorem dL_undo_0 : decode cL_undo 0 = .ok (.aload_n 0, 1) := by decide +kernel
theorem dL_undo_1 : decode cL_undo 1 = .ok (.invokevirtual 70, 3) := by decide +kernel
theorem dL_undo_4 : decode cL_undo 4 = .ok (.i2l, 1) := by decide +kernel
theorem dL_undo_5 : decode cL_undo 5 = .ok (.lreturn, 1) := by decide +kernel
theorem dL_undo_6 : decode cL_undo 6 = .ok (.astore_n 1, 1) := by decide +kernel
theorem dL_undo_7 : decode cL_undo 7 = .ok (.ldc2_w 21, 3) := by decide +kernel
theorem dL_undo_10 : decode cL_undo 10 = .ok (.lreturn, 1) := by decide +kernel
theorem dL_why_0 : decode cL_why 0 = .ok (.aload_n 0, 1) := by decide +kernel
theorem dL_why_1 : decode cL_why 1 = .ok (.iload_n 1, 1) := by decide +kernel
theorem dL_why_2 : decode cL_why 2 = .ok (.iload_n 2, 1) := by decide +kernel
theorem dL_why_3 : decode cL_why 3 = .ok (.iload_n 3, 1) := by decide +kernel
theorem dL_why_4 : decode cL_why 4 = .ok (.iload 4, 2) := by decide +kernel
theorem dL_why_6 : decode cL_why 6 = .ok (.invokevirtual 73, 3) := by decide +kernel
theorem dL_why_9 : decode cL_why 9 = .ok (.i2l, 1) := by decide +kernel
theorem dL_why_10 : decode cL_why 10 = .ok (.lreturn, 1) := by decide +kernel
theorem dL_why_11 : decode cL_why 11 = .ok (.astore 5, 2) := by decide +kernel
theorem dL_why_13 : decode cL_why 13 = .ok (.ldc2_w 36, 3) := by decide +kernel
theorem dL_why_16 : decode cL_why 16 = .ok (.lreturn, 1) := by decide +kernel
theorem dL_why_17 : decode cL_why 17 = .ok (.astore 5, 2) := by decide +kernel
theorem dL_why_19 : decode cL_why 19 = .ok (.ldc2_w 17, 3) := by decide +kernel
theorem dL_why_22 : decode cL_why 22 = .ok (.lreturn, 1) := by decide +kernel
theorem dL_endsIn_0 : decode cL_endsIn 0 = .ok (.aload_n 0, 1) := by decide +kernel
theorem dL_endsIn_1 : decode cL_endsIn 1 = .ok (.iload_n 1, 1) := by decide +kernel
theorem dL_endsIn_2 : decode cL_endsIn 2 = .ok (.invokevirtual 76, 3) := by decide +kernel
theorem dL_endsIn_5 : decode cL_endsIn 5 = .ok (.i2l, 1) := by decide +kernel
theorem dL_endsIn_6 : decode cL_endsIn 6 = .ok (.lreturn, 1) := by decide +kernel
theorem dL_endsIn_7 : decode cL_endsIn 7 = .ok (.astore_n 2, 1) := by decide +kernel
theorem dL_endsIn_8 : decode cL_endsIn 8 = .ok (.ldc2_w 36, 3) := by decide +kernel
theorem dL_endsIn_11 : decode cL_endsIn 11 = .ok (.lreturn, 1) := by decide +kernel
theorem dL_bestName_0 : decode cL_bestName 0 = .ok (.aload_n 0, 1) := by decide +kernel
theorem dL_bestName_1 : decode cL_bestName 1 = .ok (.iload_n 1, 1) := by decide +kernel
theorem dL_bestName_2 : decode cL_bestName 2 = .ok (.iload_n 2, 1) := by decide +kernel
theorem dL_bestName_3 : decode cL_bestName 3 = .ok (.iload_n 3, 1) := by decide +kernel
theorem dL_bestName_4 : decode cL_bestName 4 = .ok (.invokevirtual 79, 3) := by decide +kernel
theorem dL_bestName_7 : decode cL_bestName 7 = .ok (.i2l, 1) := by decide +kernel
theorem dL_bestName_8 : decode cL_bestName 8 = .ok (.lreturn, 1) := by decide +kernel
theorem dL_bestName_9 : decode cL_bestName 9 = .ok (.astore 4, 2) := by decide +kernel
theorem dL_bestName_11 : decode cL_bestName 11 = .ok (.ldc2_w 36, 3) := by decide +kernel
theorem dL_bestName_14 : decode cL_bestName 14 = .ok (.lreturn, 1) := by decide +kernel
theorem dL_bestName_15 : decode cL_bestName 15 = .ok (.astore 4, 2) := by decide +kernel
theorem dL_bestName_17 : decode cL_bestName 17 = .ok (.ldc2_w 17, 3) := by decide +kernel
theorem dL_bestName_20 : decode cL_bestName 20 = .ok (.lreturn, 1) := by decide +kernel
theorem dL_script_0 : decode cL_script 0 = .ok (.aload_n 0, 1) := by decide +kernel
theorem dL_script_1 : decode cL_script 1 = .ok (.iload_n 1, 1) := by decide +kernel
theorem dL_script_2 : decode cL_script 2 = .ok (.lload_n 2, 1) := by decide +kernel
theorem dL_script_3 : decode cL_script 3 = .ok (.invokevirtual 82, 3) := by decide +kernel
theorem dL_script_6 : decode cL_script 6 = .ok (.i2l, 1) := by decide +kernel
theorem dL_script_7 : decode cL_script 7 = .ok (.lreturn, 1) := by decide +kernel
theorem dL_script_8 : decode cL_script 8 = .ok (.astore 4, 2) := by decide +kernel
theorem dL_script_10 : decode cL_script 10 = .ok (.ldc2_w 17, 3) := by decide +kernel
theorem dL_script_13 : decode cL_script 13 = .ok (.lreturn, 1) := by decide +kernel
theorem dL_simulate_0 : decode cL_simulate 0 = .ok (.aload_n 0, 1) := by decide +kernel
theorem dL_simulate_1 : decode cL_simulate 1 = .ok (.lload_n 1, 1) := by decide +kernel
theorem dL_simulate_2 : decode cL_simulate 2 = .ok (.iload_n 3, 1) := by decide +kernel
theorem dL_simulate_3 : decode cL_simulate 3 = .ok (.invokevirtual 86, 3) := by decide +kernel
theorem dL_simulate_6 : decode cL_simulate 6 = .ok (.i2l, 1) := by decide +kernel
theorem dL_simulate_7 : decode cL_simulate 7 = .ok (.lreturn, 1) := by decide +kernel
theorem dL_simulate_8 : decode cL_simulate 8 = .ok (.astore 4, 2) := by decide +kernel
theorem dL_simulate_10 : decode cL_simulate 10 = .ok (.ldc2_w 17, 3) := by decide +kernel
theorem dL_simulate_13 : decode cL_simulate 13 = .ok (.lreturn, 1) := by decide +kernel
theorem dL_save_0 : decode cL_save 0 = .ok (.aload_n 0, 1) := by decide +kernel
theorem dL_save_1 : decode cL_save 1 = .ok (.iload_n 1, 1) := by decide +kernel
theorem dL_save_2 : decode cL_save 2 = .ok (.invokevirtual 90, 3) := by decide +kernel
theorem dL_save_5 : decode cL_save 5 = .ok (.i2l, 1) := by decide +kernel
theorem dL_save_6 : decode cL_save 6 = .ok (.lreturn, 1) := by decide +kernel
theorem dL_save_7 : decode cL_save 7 = .ok (.astore_n 2, 1) := by decide +kernel
theorem dL_save_8 : decode cL_save 8 = .ok (.ldc2_w 36, 3) := by decide +kernel
theorem dL_save_11 : decode cL_save 11 = .ok (.lreturn, 1) := by decide +kernel
theorem dL_restore_0 : decode cL_restore 0 = .ok (.aload_n 0, 1) := by decide +kernel
theorem dL_restore_1 : decode cL_restore 1 = .ok (.iload_n 1, 1) := by decide +kernel
theorem dL_restore_2 : decode cL_restore 2 = .ok (.invokevirtual 93, 3) := by decide +kernel
theorem dL_restore_5 : decode cL_restore 5 = .ok (.i2l, 1) := by decide +kernel
theorem dL_restore_6 : decode cL_restore 6 = .ok (.lreturn, 1) := by decide +kernel
theorem dL_restore_7 : decode cL_restore 7 = .ok (.astore_n 2, 1) := by decide +kernel
theorem dL_restore_8 : decode cL_restore 8 = .ok (.ldc2_w 36, 3) := by decide +kernel
theorem dL_restore_11 : decode cL_restore 11 = .ok (.lreturn, 1) := by decide +kernel
theorem dL_restore_12 : decode cL_restore 12 = .ok (.astore_n 2, 1) := by decide +kernel
theorem dL_restore_13 : decode cL_restore 13 = .ok (.ldc2_w 21, 3) := by decide +kernel
theorem dL_restore_16 : decode cL_restore 16 = .ok (.lreturn, 1) := by decide +kernel
theorem dL_now_0 : decode cL_now 0 = .ok (.ldc2_w 96, 3) := by decide +kernel
theorem dL_now_3 : decode cL_now 3 = .ok (.lstore_n 1, 1) := by decide +kernel
theorem dL_now_4 : decode cL_now 4 = .ok (.iconst 0, 1) := by decide +kernel
theorem dL_now_5 : decode cL_now 5 = .ok (.istore_n 3, 1) := by decide +kernel
theorem dL_now_6 : decode cL_now 6 = .ok (.iload_n 3, 1) := by decide +kernel
theorem dL_now_7 : decode cL_now 7 = .ok (.bipush 15, 2) := by decide +kernel
theorem dL_now_9 : decode cL_now 9 = .ok (.if_icmp .ge 21, 3) := by decide +kernel
theorem dL_now_12 : decode cL_now 12 = .ok (.ldc2_w 98, 3) := by decide +kernel
theorem dL_now_15 : decode cL_now 15 = .ok (.lload_n 1, 1) := by decide +kernel
theorem dL_now_16 : decode cL_now 16 = .ok (.lmul, 1) := by decide +kernel
theorem dL_now_17 : decode cL_now 17 = .ok (.aload_n 0, 1) := by decide +kernel
theorem dL_now_18 : decode cL_now 18 = .ok (.iload_n 3, 1) := by decide +kernel
theorem dL_now_19 : decode cL_now 19 = .ok (.invokestatic 100, 3) := by decide +kernel
theorem dL_now_22 : decode cL_now 22 = .ok (.ladd, 1) := by decide +kernel
theorem dL_now_23 : decode cL_now 23 = .ok (.lstore_n 1, 1) := by decide +kernel
theorem dL_now_24 : decode cL_now 24 = .ok (.iinc 3 1, 3) := by decide +kernel
theorem dL_now_27 : decode cL_now 27 = .ok (.goto (-21), 3) := by decide +kernel
theorem dL_now_30 : decode cL_now 30 = .ok (.iconst 0, 1) := by decide +kernel
theorem dL_now_31 : decode cL_now 31 = .ok (.istore_n 3, 1) := by decide +kernel
theorem dL_now_32 : decode cL_now 32 = .ok (.iload_n 3, 1) := by decide +kernel
theorem dL_now_33 : decode cL_now 33 = .ok (.i2l, 1) := by decide +kernel
theorem dL_now_34 : decode cL_now 34 = .ok (.aload_n 0, 1) := by decide +kernel
theorem dL_now_35 : decode cL_now 35 = .ok (.iconst 0, 1) := by decide +kernel
theorem dL_now_36 : decode cL_now 36 = .ok (.invokestatic 100, 3) := by decide +kernel
theorem dL_now_39 : decode cL_now 39 = .ok (.lcmp, 1) := by decide +kernel
theorem dL_now_40 : decode cL_now 40 = .ok (.ifCond .ge 39, 3) := by decide +kernel
theorem dL_now_43 : decode cL_now 43 = .ok (.iconst 0, 1) := by decide +kernel
theorem dL_now_44 : decode cL_now 44 = .ok (.istore 4, 2) := by decide +kernel
theorem dL_now_46 : decode cL_now 46 = .ok (.iload 4, 2) := by decide +kernel
theorem dL_now_48 : decode cL_now 48 = .ok (.bipush 9, 2) := by decide +kernel
theorem dL_now_50 : decode cL_now 50 = .ok (.if_icmp .ge 23, 3) := by decide +kernel
theorem dL_now_53 : decode cL_now 53 = .ok (.ldc2_w 98, 3) := by decide +kernel
theorem dL_now_56 : decode cL_now 56 = .ok (.lload_n 1, 1) := by decide +kernel
theorem dL_now_57 : decode cL_now 57 = .ok (.lmul, 1) := by decide +kernel
theorem dL_now_58 : decode cL_now 58 = .ok (.aload_n 0, 1) := by decide +kernel
theorem dL_now_59 : decode cL_now 59 = .ok (.iload_n 3, 1) := by decide +kernel
theorem dL_now_60 : decode cL_now 60 = .ok (.iload 4, 2) := by decide +kernel
theorem dL_now_62 : decode cL_now 62 = .ok (.invokestatic 105, 3) := by decide +kernel
theorem dL_now_65 : decode cL_now 65 = .ok (.ladd, 1) := by decide +kernel
theorem dL_now_66 : decode cL_now 66 = .ok (.lstore_n 1, 1) := by decide +kernel
theorem dL_now_67 : decode cL_now 67 = .ok (.iinc 4 1, 3) := by decide +kernel
theorem dL_now_70 : decode cL_now 70 = .ok (.goto (-24), 3) := by decide +kernel
theorem dL_now_73 : decode cL_now 73 = .ok (.iinc 3 1, 3) := by decide +kernel
theorem dL_now_76 : decode cL_now 76 = .ok (.goto (-44), 3) := by decide +kernel
theorem dL_now_79 : decode cL_now 79 = .ok (.iconst 0, 1) := by decide +kernel
theorem dL_now_80 : decode cL_now 80 = .ok (.istore_n 3, 1) := by decide +kernel
theorem dL_now_81 : decode cL_now 81 = .ok (.iload_n 3, 1) := by decide +kernel
theorem dL_now_82 : decode cL_now 82 = .ok (.i2l, 1) := by decide +kernel
theorem dL_now_83 : decode cL_now 83 = .ok (.aload_n 0, 1) := by decide +kernel
theorem dL_now_84 : decode cL_now 84 = .ok (.iconst 1, 1) := by decide +kernel
theorem dL_now_85 : decode cL_now 85 = .ok (.invokestatic 100, 3) := by decide +kernel
theorem dL_now_88 : decode cL_now 88 = .ok (.lcmp, 1) := by decide +kernel
theorem dL_now_89 : decode cL_now 89 = .ok (.ifCond .ge 39, 3) := by decide +kernel
theorem dL_now_92 : decode cL_now 92 = .ok (.iconst 0, 1) := by decide +kernel
theorem dL_now_93 : decode cL_now 93 = .ok (.istore 4, 2) := by decide +kernel
theorem dL_now_95 : decode cL_now 95 = .ok (.iload 4, 2) := by decide +kernel
theorem dL_now_97 : decode cL_now 97 = .ok (.bipush 8, 2) := by decide +kernel
theorem dL_now_99 : decode cL_now 99 = .ok (.if_icmp .ge 23, 3) := by decide +kernel
theorem dL_now_102 : decode cL_now 102 = .ok (.ldc2_w 98, 3) := by decide +kernel
theorem dL_now_105 : decode cL_now 105 = .ok (.lload_n 1, 1) := by decide +kernel
theorem dL_now_106 : decode cL_now 106 = .ok (.lmul, 1) := by decide +kernel
theorem dL_now_107 : decode cL_now 107 = .ok (.aload_n 0, 1) := by decide +kernel
theorem dL_now_108 : decode cL_now 108 = .ok (.iload_n 3, 1) := by decide +kernel
theorem dL_now_109 : decode cL_now 109 = .ok (.iload 4, 2) := by decide +kernel
theorem dL_now_111 : decode cL_now 111 = .ok (.invokestatic 108, 3) := by decide +kernel
theorem dL_now_114 : decode cL_now 114 = .ok (.ladd, 1) := by decide +kernel
theorem dL_now_115 : decode cL_now 115 = .ok (.lstore_n 1, 1) := by decide +kernel
theorem dL_now_116 : decode cL_now 116 = .ok (.iinc 4 1, 3) := by decide +kernel
theorem dL_now_119 : decode cL_now 119 = .ok (.goto (-24), 3) := by decide +kernel
theorem dL_now_122 : decode cL_now 122 = .ok (.iinc 3 1, 3) := by decide +kernel
theorem dL_now_125 : decode cL_now 125 = .ok (.goto (-44), 3) := by decide +kernel
theorem dL_now_128 : decode cL_now 128 = .ok (.lload_n 1, 1) := by decide +kernel
theorem dL_now_129 : decode cL_now 129 = .ok (.lreturn, 1) := by decide +kernel
theorem dL_errors_0 : decode cL_errors 0 = .ok (.aload_n 0, 1) := by decide +kernel
theorem dL_errors_1 : decode cL_errors 1 = .ok (.invokestatic 110, 3) := by decide +kernel
theorem dL_errors_4 : decode cL_errors 4 = .ok (.lstore_n 1, 1) := by decide +kernel
theorem dL_errors_5 : decode cL_errors 5 = .ok (.aload_n 0, 1) := by decide +kernel
theorem dL_errors_6 : decode cL_errors 6 = .ok (.iconst 0, 1) := by decide +kernel
theorem dL_errors_7 : decode cL_errors 7 = .ok (.invokestatic 100, 3) := by decide +kernel
theorem dL_errors_10 : decode cL_errors 10 = .ok (.l2i, 1) := by decide +kernel
theorem dL_errors_11 : decode cL_errors 11 = .ok (.istore_n 3, 1) := by decide +kernel
theorem dL_errors_12 : decode cL_errors 12 = .ok (.aload_n 0, 1) := by decide +kernel
theorem dL_errors_13 : decode cL_errors 13 = .ok (.iconst 1, 1) := by decide +kernel
theorem dL_errors_14 : decode cL_errors 14 = .ok (.invokestatic 100, 3) := by decide +kernel
theorem dL_errors_17 : decode cL_errors 17 = .ok (.l2i, 1) := by decide +kernel
theorem dL_errors_18 : decode cL_errors 18 = .ok (.istore 4, 2) := by decide +kernel
theorem dL_errors_20 : decode cL_errors 20 = .ok (.aload_n 0, 1) := by decide +kernel
theorem dL_errors_21 : decode cL_errors 21 = .ok (.iconst (-1), 1) := by decide +kernel
theorem dL_errors_22 : decode cL_errors 22 = .ok (.invokestatic 100, 3) := by decide +kernel
theorem dL_errors_25 : decode cL_errors 25 = .ok (.ldc2_w 17, 3) := by decide +kernel
theorem dL_errors_28 : decode cL_errors 28 = .ok (.lcmp, 1) := by decide +kernel
theorem dL_errors_29 : decode cL_errors 29 = .ok (.ifCond .ne 314, 3) := by decide +kernel
theorem dL_errors_32 : decode cL_errors 32 = .ok (.aload_n 0, 1) := by decide +kernel
theorem dL_errors_33 : decode cL_errors 33 = .ok (.bipush 15, 2) := by decide +kernel
theorem dL_errors_35 : decode cL_errors 35 = .ok (.invokestatic 100, 3) := by decide +kernel
theorem dL_errors_38 : decode cL_errors 38 = .ok (.ldc2_w 17, 3) := by decide +kernel
theorem dL_errors_41 : decode cL_errors 41 = .ok (.lcmp, 1) := by decide +kernel
theorem dL_errors_42 : decode cL_errors 42 = .ok (.ifCond .ne 301, 3) := by decide +kernel
theorem dL_errors_45 : decode cL_errors 45 = .ok (.aload_n 0, 1) := by decide +kernel
theorem dL_errors_46 : decode cL_errors 46 = .ok (.iload_n 3, 1) := by decide +kernel
theorem dL_errors_47 : decode cL_errors 47 = .ok (.bipush 9, 2) := by decide +kernel
theorem dL_errors_49 : decode cL_errors 49 = .ok (.invokestatic 105, 3) := by decide +kernel
theorem dL_errors_52 : decode cL_errors 52 = .ok (.ldc2_w 36, 3) := by decide +kernel
theorem dL_errors_55 : decode cL_errors 55 = .ok (.lcmp, 1) := by decide +kernel
theorem dL_errors_56 : decode cL_errors 56 = .ok (.ifCond .ne 287, 3) := by decide +kernel
theorem dL_errors_59 : decode cL_errors 59 = .ok (.aload_n 0, 1) := by decide +kernel
theorem dL_errors_60 : decode cL_errors 60 = .ok (.iconst (-1), 1) := by decide +kernel
theorem dL_errors_61 : decode cL_errors 61 = .ok (.iconst 0, 1) := by decide +kernel
theorem dL_errors_62 : decode cL_errors 62 = .ok (.invokestatic 105, 3) := by decide +kernel
theorem dL_errors_65 : decode cL_errors 65 = .ok (.ldc2_w 36, 3) := by decide +kernel
theorem dL_errors_68 : decode cL_errors 68 = .ok (.lcmp, 1) := by decide +kernel
theorem dL_errors_69 : decode cL_errors 69 = .ok (.ifCond .ne 274, 3) := by decide +kernel
theorem dL_errors_72 : decode cL_errors 72 = .ok (.aload_n 0, 1) := by decide +kernel
theorem dL_errors_73 : decode cL_errors 73 = .ok (.iload 4, 2) := by decide +kernel
theorem dL_errors_75 : decode cL_errors 75 = .ok (.bipush 8, 2) := by decide +kernel
theorem dL_errors_77 : decode cL_errors 77 = .ok (.invokestatic 108, 3) := by decide +kernel
theorem dL_errors_80 : decode cL_errors 80 = .ok (.ldc2_w 36, 3) := by decide +kernel
theorem dL_errors_83 : decode cL_errors 83 = .ok (.lcmp, 1) := by decide +kernel
theorem dL_errors_84 : decode cL_errors 84 = .ok (.ifCond .ne 259, 3) := by decide +kernel
theorem dL_errors_87 : decode cL_errors 87 = .ok (.aload_n 0, 1) := by decide +kernel
theorem dL_errors_88 : decode cL_errors 88 = .ok (.iload 4, 2) := by decide +kernel
theorem dL_errors_90 : decode cL_errors 90 = .ok (.iconst 0, 1) := by decide +kernel
theorem dL_errors_91 : decode cL_errors 91 = .ok (.invokestatic 114, 3) := by decide +kernel
theorem dL_errors_94 : decode cL_errors 94 = .ok (.ldc2_w 36, 3) := by decide +kernel
theorem dL_errors_97 : decode cL_errors 97 = .ok (.lcmp, 1) := by decide +kernel
theorem dL_errors_98 : decode cL_errors 98 = .ok (.ifCond .ne 245, 3) := by decide +kernel
theorem dL_errors_101 : decode cL_errors 101 = .ok (.aload_n 0, 1) := by decide +kernel
theorem dL_errors_102 : decode cL_errors 102 = .ok (.iconst (-1), 1) := by decide +kernel
theorem dL_errors_103 : decode cL_errors 103 = .ok (.invokestatic 116, 3) := by decide +kernel
theorem dL_errors_106 : decode cL_errors 106 = .ok (.ldc2_w 17, 3) := by decide +kernel
theorem dL_errors_109 : decode cL_errors 109 = .ok (.lcmp, 1) := by decide +kernel
theorem dL_errors_110 : decode cL_errors 110 = .ok (.ifCond .ne 233, 3) := by decide +kernel
theorem dL_errors_113 : decode cL_errors 113 = .ok (.aload_n 0, 1) := by decide +kernel
theorem dL_errors_114 : decode cL_errors 114 = .ok (.iconst 4, 1) := by decide +kernel
theorem dL_errors_115 : decode cL_errors 115 = .ok (.iconst 5, 1) := by decide +kernel
theorem dL_errors_116 : decode cL_errors 116 = .ok (.iconst 0, 1) := by decide +kernel
theorem dL_errors_117 : decode cL_errors 117 = .ok (.iconst 2, 1) := by decide +kernel
theorem dL_errors_118 : decode cL_errors 118 = .ok (.invokestatic 118, 3) := by decide +kernel
theorem dL_errors_121 : decode cL_errors 121 = .ok (.ldc2_w 36, 3) := by decide +kernel
theorem dL_errors_124 : decode cL_errors 124 = .ok (.lcmp, 1) := by decide +kernel
theorem dL_errors_125 : decode cL_errors 125 = .ok (.ifCond .ne 218, 3) := by decide +kernel
theorem dL_errors_128 : decode cL_errors 128 = .ok (.aload_n 0, 1) := by decide +kernel
theorem dL_errors_129 : decode cL_errors 129 = .ok (.iconst 0, 1) := by decide +kernel
theorem dL_errors_130 : decode cL_errors 130 = .ok (.iconst 5, 1) := by decide +kernel
theorem dL_errors_131 : decode cL_errors 131 = .ok (.iconst 0, 1) := by decide +kernel
theorem dL_errors_132 : decode cL_errors 132 = .ok (.iconst 0, 1) := by decide +kernel
theorem dL_errors_133 : decode cL_errors 133 = .ok (.invokestatic 118, 3) := by decide +kernel
theorem dL_errors_136 : decode cL_errors 136 = .ok (.ldc2_w 17, 3) := by decide +kernel
theorem dL_errors_139 : decode cL_errors 139 = .ok (.lcmp, 1) := by decide +kernel
theorem dL_errors_140 : decode cL_errors 140 = .ok (.ifCond .ne 203, 3) := by decide +kernel
theorem dL_errors_143 : decode cL_errors 143 = .ok (.aload_n 0, 1) := by decide +kernel
theorem dL_errors_144 : decode cL_errors 144 = .ok (.iconst 0, 1) := by decide +kernel
theorem dL_errors_145 : decode cL_errors 145 = .ok (.iconst 1, 1) := by decide +kernel
theorem dL_errors_146 : decode cL_errors 146 = .ok (.iconst (-1), 1) := by decide +kernel
theorem dL_errors_147 : decode cL_errors 147 = .ok (.iconst 0, 1) := by decide +kernel
theorem dL_errors_148 : decode cL_errors 148 = .ok (.invokestatic 118, 3) := by decide +kernel
theorem dL_errors_151 : decode cL_errors 151 = .ok (.ldc2_w 17, 3) := by decide +kernel
theorem dL_errors_154 : decode cL_errors 154 = .ok (.lcmp, 1) := by decide +kernel
theorem dL_errors_155 : decode cL_errors 155 = .ok (.ifCond .ne 188, 3) := by decide +kernel
theorem dL_errors_158 : decode cL_errors 158 = .ok (.aload_n 0, 1) := by decide +kernel
theorem dL_errors_159 : decode cL_errors 159 = .ok (.iconst 0, 1) := by decide +kernel
theorem dL_errors_160 : decode cL_errors 160 = .ok (.bipush 6, 2) := by decide +kernel
theorem dL_errors_162 : decode cL_errors 162 = .ok (.iconst 0, 1) := by decide +kernel
theorem dL_errors_163 : decode cL_errors 163 = .ok (.invokestatic 121, 3) := by decide +kernel
theorem dL_errors_166 : decode cL_errors 166 = .ok (.ldc2_w 36, 3) := by decide +kernel
theorem dL_errors_169 : decode cL_errors 169 = .ok (.lcmp, 1) := by decide +kernel
theorem dL_errors_170 : decode cL_errors 170 = .ok (.ifCond .ne 173, 3) := by decide +kernel
theorem dL_errors_173 : decode cL_errors 173 = .ok (.aload_n 0, 1) := by decide +kernel
theorem dL_errors_174 : decode cL_errors 174 = .ok (.iconst 0, 1) := by decide +kernel
theorem dL_errors_175 : decode cL_errors 175 = .ok (.iconst 0, 1) := by decide +kernel
theorem dL_errors_176 : decode cL_errors 176 = .ok (.iconst (-1), 1) := by decide +kernel
theorem dL_errors_177 : decode cL_errors 177 = .ok (.invokestatic 121, 3) := by decide +kernel
theorem dL_errors_180 : decode cL_errors 180 = .ok (.ldc2_w 36, 3) := by decide +kernel
theorem dL_errors_183 : decode cL_errors 183 = .ok (.lcmp, 1) := by decide +kernel
theorem dL_errors_184 : decode cL_errors 184 = .ok (.ifCond .ne 159, 3) := by decide +kernel
theorem dL_errors_187 : decode cL_errors 187 = .ok (.aload_n 0, 1) := by decide +kernel
theorem dL_errors_188 : decode cL_errors 188 = .ok (.iconst (-1), 1) := by decide +kernel
theorem dL_errors_189 : decode cL_errors 189 = .ok (.iconst 0, 1) := by decide +kernel
theorem dL_errors_190 : decode cL_errors 190 = .ok (.iconst 0, 1) := by decide +kernel
theorem dL_errors_191 : decode cL_errors 191 = .ok (.invokestatic 121, 3) := by decide +kernel
theorem dL_errors_194 : decode cL_errors 194 = .ok (.ldc2_w 17, 3) := by decide +kernel
theorem dL_errors_197 : decode cL_errors 197 = .ok (.lcmp, 1) := by decide +kernel
theorem dL_errors_198 : decode cL_errors 198 = .ok (.ifCond .ne 145, 3) := by decide +kernel
theorem dL_errors_201 : decode cL_errors 201 = .ok (.aload_n 0, 1) := by decide +kernel
theorem dL_errors_202 : decode cL_errors 202 = .ok (.iload_n 3, 1) := by decide +kernel
theorem dL_errors_203 : decode cL_errors 203 = .ok (.iconst 0, 1) := by decide +kernel
theorem dL_errors_204 : decode cL_errors 204 = .ok (.invokestatic 124, 3) := by decide +kernel
theorem dL_errors_207 : decode cL_errors 207 = .ok (.ldc2_w 36, 3) := by decide +kernel
theorem dL_errors_210 : decode cL_errors 210 = .ok (.lcmp, 1) := by decide +kernel
theorem dL_errors_211 : decode cL_errors 211 = .ok (.ifCond .ne 132, 3) := by decide +kernel
theorem dL_errors_214 : decode cL_errors 214 = .ok (.aload_n 0, 1) := by decide +kernel
theorem dL_errors_215 : decode cL_errors 215 = .ok (.iload_n 3, 1) := by decide +kernel
theorem dL_errors_216 : decode cL_errors 216 = .ok (.iconst 0, 1) := by decide +kernel
theorem dL_errors_217 : decode cL_errors 217 = .ok (.iconst 5, 1) := by decide +kernel
theorem dL_errors_218 : decode cL_errors 218 = .ok (.iconst 0, 1) := by decide +kernel
theorem dL_errors_219 : decode cL_errors 219 = .ok (.invokestatic 126, 3) := by decide +kernel
theorem dL_errors_222 : decode cL_errors 222 = .ok (.ldc2_w 36, 3) := by decide +kernel
theorem dL_errors_225 : decode cL_errors 225 = .ok (.lcmp, 1) := by decide +kernel
theorem dL_errors_226 : decode cL_errors 226 = .ok (.ifCond .ne 117, 3) := by decide +kernel
theorem dL_errors_229 : decode cL_errors 229 = .ok (.aload_n 0, 1) := by decide +kernel
theorem dL_errors_230 : decode cL_errors 230 = .ok (.iconst 0, 1) := by decide +kernel
theorem dL_errors_231 : decode cL_errors 231 = .ok (.iload_n 3, 1) := by decide +kernel
theorem dL_errors_232 : decode cL_errors 232 = .ok (.iconst 1, 1) := by decide +kernel
theorem dL_errors_233 : decode cL_errors 233 = .ok (.iconst 0, 1) := by decide +kernel
theorem dL_errors_234 : decode cL_errors 234 = .ok (.invokestatic 126, 3) := by decide +kernel
theorem dL_errors_237 : decode cL_errors 237 = .ok (.ldc2_w 36, 3) := by decide +kernel
theorem dL_errors_240 : decode cL_errors 240 = .ok (.lcmp, 1) := by decide +kernel
theorem dL_errors_241 : decode cL_errors 241 = .ok (.ifCond .ne 102, 3) := by decide +kernel
theorem dL_errors_244 : decode cL_errors 244 = .ok (.aload_n 0, 1) := by decide +kernel
theorem dL_errors_245 : decode cL_errors 245 = .ok (.iconst (-1), 1) := by decide +kernel
theorem dL_errors_246 : decode cL_errors 246 = .ok (.iconst 1, 1) := by decide +kernel
theorem dL_errors_247 : decode cL_errors 247 = .ok (.iconst 0, 1) := by decide +kernel
theorem dL_errors_248 : decode cL_errors 248 = .ok (.invokestatic 128, 3) := by decide +kernel
theorem dL_errors_251 : decode cL_errors 251 = .ok (.ldc2_w 36, 3) := by decide +kernel
theorem dL_errors_254 : decode cL_errors 254 = .ok (.lcmp, 1) := by decide +kernel
theorem dL_errors_255 : decode cL_errors 255 = .ok (.ifCond .ne 88, 3) := by decide +kernel
theorem dL_errors_258 : decode cL_errors 258 = .ok (.aload_n 0, 1) := by decide +kernel
theorem dL_errors_259 : decode cL_errors 259 = .ok (.iconst 0, 1) := by decide +kernel
theorem dL_errors_260 : decode cL_errors 260 = .ok (.iconst 0, 1) := by decide +kernel
theorem dL_errors_261 : decode cL_errors 261 = .ok (.iconst 0, 1) := by decide +kernel
theorem dL_errors_262 : decode cL_errors 262 = .ok (.invokestatic 128, 3) := by decide +kernel
theorem dL_errors_265 : decode cL_errors 265 = .ok (.ldc2_w 17, 3) := by decide +kernel
theorem dL_errors_268 : decode cL_errors 268 = .ok (.lcmp, 1) := by decide +kernel
theorem dL_errors_269 : decode cL_errors 269 = .ok (.ifCond .ne 74, 3) := by decide +kernel
theorem dL_errors_272 : decode cL_errors 272 = .ok (.aload_n 0, 1) := by decide +kernel
theorem dL_errors_273 : decode cL_errors 273 = .ok (.iconst 0, 1) := by decide +kernel
theorem dL_errors_274 : decode cL_errors 274 = .ok (.iconst 2, 1) := by decide +kernel
theorem dL_errors_275 : decode cL_errors 275 = .ok (.sipush 676, 3) := by decide +kernel
theorem dL_errors_278 : decode cL_errors 278 = .ok (.invokestatic 128, 3) := by decide +kernel
theorem dL_errors_281 : decode cL_errors 281 = .ok (.ldc2_w 17, 3) := by decide +kernel
theorem dL_errors_284 : decode cL_errors 284 = .ok (.lcmp, 1) := by decide +kernel
theorem dL_errors_285 : decode cL_errors 285 = .ok (.ifCond .ne 58, 3) := by decide +kernel
theorem dL_errors_288 : decode cL_errors 288 = .ok (.aload_n 0, 1) := by decide +kernel
theorem dL_errors_289 : decode cL_errors 289 = .ok (.iconst 0, 1) := by decide +kernel
theorem dL_errors_290 : decode cL_errors 290 = .ok (.invokestatic 130, 3) := by decide +kernel
theorem dL_errors_293 : decode cL_errors 293 = .ok (.ldc2_w 17, 3) := by decide +kernel
theorem dL_errors_296 : decode cL_errors 296 = .ok (.lcmp, 1) := by decide +kernel
theorem dL_errors_297 : decode cL_errors 297 = .ok (.ifCond .ne 46, 3) := by decide +kernel
theorem dL_errors_300 : decode cL_errors 300 = .ok (.aload_n 0, 1) := by decide +kernel
theorem dL_errors_301 : decode cL_errors 301 = .ok (.iconst 3, 1) := by decide +kernel
theorem dL_errors_302 : decode cL_errors 302 = .ok (.iconst 1, 1) := by decide +kernel
theorem dL_errors_303 : decode cL_errors 303 = .ok (.invokestatic 132, 3) := by decide +kernel
theorem dL_errors_306 : decode cL_errors 306 = .ok (.ldc2_w 17, 3) := by decide +kernel
theorem dL_errors_309 : decode cL_errors 309 = .ok (.lcmp, 1) := by decide +kernel
theorem dL_errors_310 : decode cL_errors 310 = .ok (.ifCond .ne 33, 3) := by decide +kernel
theorem dL_errors_313 : decode cL_errors 313 = .ok (.aload_n 0, 1) := by decide +kernel
theorem dL_errors_314 : decode cL_errors 314 = .ok (.iconst 1, 1) := by decide +kernel
theorem dL_errors_315 : decode cL_errors 315 = .ok (.iconst 0, 1) := by decide +kernel
theorem dL_errors_316 : decode cL_errors 316 = .ok (.invokestatic 132, 3) := by decide +kernel
theorem dL_errors_319 : decode cL_errors 319 = .ok (.ldc2_w 17, 3) := by decide +kernel
theorem dL_errors_322 : decode cL_errors 322 = .ok (.lcmp, 1) := by decide +kernel
theorem dL_errors_323 : decode cL_errors 323 = .ok (.ifCond .ne 20, 3) := by decide +kernel
theorem dL_errors_326 : decode cL_errors 326 = .ok (.aload_n 0, 1) := by decide +kernel
theorem dL_errors_327 : decode cL_errors 327 = .ok (.iconst 2, 1) := by decide +kernel
theorem dL_errors_328 : decode cL_errors 328 = .ok (.iconst (-1), 1) := by decide +kernel
theorem dL_errors_329 : decode cL_errors 329 = .ok (.invokestatic 132, 3) := by decide +kernel
theorem dL_errors_332 : decode cL_errors 332 = .ok (.ldc2_w 17, 3) := by decide +kernel
theorem dL_errors_335 : decode cL_errors 335 = .ok (.lcmp, 1) := by decide +kernel
theorem dL_errors_336 : decode cL_errors 336 = .ok (.ifCond .ne 7, 3) := by decide +kernel
theorem dL_errors_339 : decode cL_errors 339 = .ok (.iconst 1, 1) := by decide +kernel
theorem dL_errors_340 : decode cL_errors 340 = .ok (.goto 4, 3) := by decide +kernel
theorem dL_errors_343 : decode cL_errors 343 = .ok (.iconst 0, 1) := by decide +kernel
theorem dL_errors_344 : decode cL_errors 344 = .ok (.istore 5, 2) := by decide +kernel
theorem dL_errors_346 : decode cL_errors 346 = .ok (.iload 5, 2) := by decide +kernel
theorem dL_errors_348 : decode cL_errors 348 = .ok (.ifCond .eq 257, 3) := by decide +kernel
theorem dL_errors_351 : decode cL_errors 351 = .ok (.aload_n 0, 1) := by decide +kernel
theorem dL_errors_352 : decode cL_errors 352 = .ok (.iload_n 3, 1) := by decide +kernel
theorem dL_errors_353 : decode cL_errors 353 = .ok (.iconst 0, 1) := by decide +kernel
theorem dL_errors_354 : decode cL_errors 354 = .ok (.iconst 5, 1) := by decide +kernel
theorem dL_errors_355 : decode cL_errors 355 = .ok (.iconst 0, 1) := by decide +kernel
theorem dL_errors_356 : decode cL_errors 356 = .ok (.invokestatic 134, 3) := by decide +kernel
theorem dL_errors_359 : decode cL_errors 359 = .ok (.ldc2_w 36, 3) := by decide +kernel
theorem dL_errors_362 : decode cL_errors 362 = .ok (.lcmp, 1) := by decide +kernel
theorem dL_errors_363 : decode cL_errors 363 = .ok (.ifCond .ne 242, 3) := by decide +kernel
theorem dL_errors_366 : decode cL_errors 366 = .ok (.aload_n 0, 1) := by decide +kernel
theorem dL_errors_367 : decode cL_errors 367 = .ok (.iload 4, 2) := by decide +kernel
theorem dL_errors_369 : decode cL_errors 369 = .ok (.invokestatic 136, 3) := by decide +kernel
theorem dL_errors_372 : decode cL_errors 372 = .ok (.ldc2_w 36, 3) := by decide +kernel
theorem dL_errors_375 : decode cL_errors 375 = .ok (.lcmp, 1) := by decide +kernel
theorem dL_errors_376 : decode cL_errors 376 = .ok (.ifCond .ne 229, 3) := by decide +kernel
theorem dL_errors_379 : decode cL_errors 379 = .ok (.aload_n 0, 1) := by decide +kernel
theorem dL_errors_380 : decode cL_errors 380 = .ok (.iload_n 3, 1) := by decide +kernel
theorem dL_errors_381 : decode cL_errors 381 = .ok (.iconst 0, 1) := by decide +kernel
theorem dL_errors_382 : decode cL_errors 382 = .ok (.iconst 3, 1) := by decide +kernel
theorem dL_errors_383 : decode cL_errors 383 = .ok (.invokestatic 138, 3) := by decide +kernel
theorem dL_errors_386 : decode cL_errors 386 = .ok (.ldc2_w 36, 3) := by decide +kernel
theorem dL_errors_389 : decode cL_errors 389 = .ok (.lcmp, 1) := by decide +kernel
theorem dL_errors_390 : decode cL_errors 390 = .ok (.ifCond .ne 215, 3) := by decide +kernel
theorem dL_errors_393 : decode cL_errors 393 = .ok (.iload_n 3, 1) := by decide +kernel
theorem dL_errors_394 : decode cL_errors 394 = .ok (.ifCond .eq 76, 3) := by decide +kernel
theorem dL_errors_397 : decode cL_errors 397 = .ok (.aload_n 0, 1) := by decide +kernel
theorem dL_errors_398 : decode cL_errors 398 = .ok (.iconst 0, 1) := by decide +kernel
theorem dL_errors_399 : decode cL_errors 399 = .ok (.iconst 4, 1) := by decide +kernel
theorem dL_errors_400 : decode cL_errors 400 = .ok (.invokestatic 124, 3) := by decide +kernel
theorem dL_errors_403 : decode cL_errors 403 = .ok (.ldc2_w 36, 3) := by decide +kernel
theorem dL_errors_406 : decode cL_errors 406 = .ok (.lcmp, 1) := by decide +kernel
theorem dL_errors_407 : decode cL_errors 407 = .ok (.ifCond .ne 198, 3) := by decide +kernel
theorem dL_errors_410 : decode cL_errors 410 = .ok (.aload_n 0, 1) := by decide +kernel
theorem dL_errors_411 : decode cL_errors 411 = .ok (.iconst 0, 1) := by decide +kernel
theorem dL_errors_412 : decode cL_errors 412 = .ok (.iconst 0, 1) := by decide +kernel
theorem dL_errors_413 : decode cL_errors 413 = .ok (.iconst 0, 1) := by decide +kernel
theorem dL_errors_414 : decode cL_errors 414 = .ok (.iconst 0, 1) := by decide +kernel
theorem dL_errors_415 : decode cL_errors 415 = .ok (.invokestatic 126, 3) := by decide +kernel
theorem dL_errors_418 : decode cL_errors 418 = .ok (.ldc2_w 17, 3) := by decide +kernel
theorem dL_errors_421 : decode cL_errors 421 = .ok (.lcmp, 1) := by decide +kernel
theorem dL_errors_422 : decode cL_errors 422 = .ok (.ifCond .ne 183, 3) := by decide +kernel
theorem dL_errors_425 : decode cL_errors 425 = .ok (.aload_n 0, 1) := by decide +kernel
theorem dL_errors_426 : decode cL_errors 426 = .ok (.iconst 0, 1) := by decide +kernel
theorem dL_errors_427 : decode cL_errors 427 = .ok (.iconst 0, 1) := by decide +kernel
theorem dL_errors_428 : decode cL_errors 428 = .ok (.iconst 3, 1) := by decide +kernel
theorem dL_errors_429 : decode cL_errors 429 = .ok (.sipush 17576, 3) := by decide +kernel
theorem dL_errors_432 : decode cL_errors 432 = .ok (.invokestatic 134, 3) := by decide +kernel
theorem dL_errors_435 : decode cL_errors 435 = .ok (.ldc2_w 17, 3) := by decide +kernel
theorem dL_errors_438 : decode cL_errors 438 = .ok (.lcmp, 1) := by decide +kernel
theorem dL_errors_439 : decode cL_errors 439 = .ok (.ifCond .ne 166, 3) := by decide +kernel
theorem dL_errors_442 : decode cL_errors 442 = .ok (.aload_n 0, 1) := by decide +kernel
theorem dL_errors_443 : decode cL_errors 443 = .ok (.iconst 0, 1) := by decide +kernel
theorem dL_errors_444 : decode cL_errors 444 = .ok (.iconst 0, 1) := by decide +kernel
theorem dL_errors_445 : decode cL_errors 445 = .ok (.iconst 0, 1) := by decide +kernel
theorem dL_errors_446 : decode cL_errors 446 = .ok (.invokestatic 138, 3) := by decide +kernel
theorem dL_errors_449 : decode cL_errors 449 = .ok (.ldc2_w 17, 3) := by decide +kernel
theorem dL_errors_452 : decode cL_errors 452 = .ok (.lcmp, 1) := by decide +kernel
theorem dL_errors_453 : decode cL_errors 453 = .ok (.ifCond .ne 152, 3) := by decide +kernel
theorem dL_errors_456 : decode cL_errors 456 = .ok (.aload_n 0, 1) := by decide +kernel
theorem dL_errors_457 : decode cL_errors 457 = .ok (.iconst 0, 1) := by decide +kernel
theorem dL_errors_458 : decode cL_errors 458 = .ok (.bipush 9, 2) := by decide +kernel
theorem dL_errors_460 : decode cL_errors 460 = .ok (.invokestatic 105, 3) := by decide +kernel
theorem dL_errors_463 : decode cL_errors 463 = .ok (.ldc2_w 17, 3) := by decide +kernel
theorem dL_errors_466 : decode cL_errors 466 = .ok (.lcmp, 1) := by decide +kernel
theorem dL_errors_467 : decode cL_errors 467 = .ok (.ifCond .ne 138, 3) := by decide +kernel
theorem dL_errors_470 : decode cL_errors 470 = .ok (.iload 4, 2) := by decide +kernel
theorem dL_errors_472 : decode cL_errors 472 = .ok (.ifCond .eq 30, 3) := by decide +kernel
theorem dL_errors_475 : decode cL_errors 475 = .ok (.aload_n 0, 1) := by decide +kernel
theorem dL_errors_476 : decode cL_errors 476 = .ok (.iconst 0, 1) := by decide +kernel
theorem dL_errors_477 : decode cL_errors 477 = .ok (.bipush 8, 2) := by decide +kernel
theorem dL_errors_479 : decode cL_errors 479 = .ok (.invokestatic 108, 3) := by decide +kernel
theorem dL_errors_482 : decode cL_errors 482 = .ok (.ldc2_w 17, 3) := by decide +kernel
theorem dL_errors_485 : decode cL_errors 485 = .ok (.lcmp, 1) := by decide +kernel
theorem dL_errors_486 : decode cL_errors 486 = .ok (.ifCond .ne 119, 3) := by decide +kernel
theorem dL_errors_489 : decode cL_errors 489 = .ok (.aload_n 0, 1) := by decide +kernel
theorem dL_errors_490 : decode cL_errors 490 = .ok (.iconst 0, 1) := by decide +kernel
theorem dL_errors_491 : decode cL_errors 491 = .ok (.iconst (-1), 1) := by decide +kernel
theorem dL_errors_492 : decode cL_errors 492 = .ok (.invokestatic 114, 3) := by decide +kernel
theorem dL_errors_495 : decode cL_errors 495 = .ok (.ldc2_w 36, 3) := by decide +kernel
theorem dL_errors_498 : decode cL_errors 498 = .ok (.lcmp, 1) := by decide +kernel
theorem dL_errors_499 : decode cL_errors 499 = .ok (.ifCond .ne 106, 3) := by decide +kernel
theorem dL_errors_502 : decode cL_errors 502 = .ok (.iload_n 3, 1) := by decide +kernel
theorem dL_errors_503 : decode cL_errors 503 = .ok (.bipush 12, 2) := by decide +kernel
theorem dL_errors_505 : decode cL_errors 505 = .ok (.if_icmp .lt 17, 3) := by decide +kernel
theorem dL_errors_508 : decode cL_errors 508 = .ok (.aload_n 0, 1) := by decide +kernel
theorem dL_errors_509 : decode cL_errors 509 = .ok (.iconst 0, 1) := by decide +kernel
theorem dL_errors_510 : decode cL_errors 510 = .ok (.iconst 0, 1) := by decide +kernel
theorem dL_errors_511 : decode cL_errors 511 = .ok (.iconst 0, 1) := by decide +kernel
theorem dL_errors_512 : decode cL_errors 512 = .ok (.invokestatic 121, 3) := by decide +kernel
theorem dL_errors_515 : decode cL_errors 515 = .ok (.ldc2_w 21, 3) := by decide +kernel
theorem dL_errors_518 : decode cL_errors 518 = .ok (.lcmp, 1) := by decide +kernel
theorem dL_errors_519 : decode cL_errors 519 = .ok (.ifCond .ne 86, 3) := by decide +kernel
theorem dL_errors_522 : decode cL_errors 522 = .ok (.aload_n 0, 1) := by decide +kernel
theorem dL_errors_523 : decode cL_errors 523 = .ok (.iconst 0, 1) := by decide +kernel
theorem dL_errors_524 : decode cL_errors 524 = .ok (.lconst 0, 1) := by decide +kernel
theorem dL_errors_525 : decode cL_errors 525 = .ok (.invokestatic 140, 3) := by decide +kernel
theorem dL_errors_528 : decode cL_errors 528 = .ok (.ldc2_w 17, 3) := by decide +kernel
theorem dL_errors_531 : decode cL_errors 531 = .ok (.lcmp, 1) := by decide +kernel
theorem dL_errors_532 : decode cL_errors 532 = .ok (.ifCond .ne 73, 3) := by decide +kernel
theorem dL_errors_535 : decode cL_errors 535 = .ok (.aload_n 0, 1) := by decide +kernel
theorem dL_errors_536 : decode cL_errors 536 = .ok (.iconst 3, 1) := by decide +kernel
theorem dL_errors_537 : decode cL_errors 537 = .ok (.ldc2_w 144, 3) := by decide +kernel
theorem dL_errors_540 : decode cL_errors 540 = .ok (.invokestatic 140, 3) := by decide +kernel
theorem dL_errors_543 : decode cL_errors 543 = .ok (.ldc2_w 17, 3) := by decide +kernel
theorem dL_errors_546 : decode cL_errors 546 = .ok (.lcmp, 1) := by decide +kernel
theorem dL_errors_547 : decode cL_errors 547 = .ok (.ifCond .ne 58, 3) := by decide +kernel
theorem dL_errors_550 : decode cL_errors 550 = .ok (.aload_n 0, 1) := by decide +kernel
theorem dL_errors_551 : decode cL_errors 551 = .ok (.lconst 1, 1) := by decide +kernel
theorem dL_errors_552 : decode cL_errors 552 = .ok (.iconst 0, 1) := by decide +kernel
theorem dL_errors_553 : decode cL_errors 553 = .ok (.invokestatic 146, 3) := by decide +kernel
theorem dL_errors_556 : decode cL_errors 556 = .ok (.ldc2_w 17, 3) := by decide +kernel
theorem dL_errors_559 : decode cL_errors 559 = .ok (.lcmp, 1) := by decide +kernel
theorem dL_errors_560 : decode cL_errors 560 = .ok (.ifCond .ne 45, 3) := by decide +kernel
theorem dL_errors_563 : decode cL_errors 563 = .ok (.aload_n 0, 1) := by decide +kernel
theorem dL_errors_564 : decode cL_errors 564 = .ok (.iconst 2, 1) := by decide +kernel
theorem dL_errors_565 : decode cL_errors 565 = .ok (.invokestatic 149, 3) := by decide +kernel
theorem dL_errors_568 : decode cL_errors 568 = .ok (.ldc2_w 36, 3) := by decide +kernel
theorem dL_errors_571 : decode cL_errors 571 = .ok (.lcmp, 1) := by decide +kernel
theorem dL_errors_572 : decode cL_errors 572 = .ok (.ifCond .ne 33, 3) := by decide +kernel
theorem dL_errors_575 : decode cL_errors 575 = .ok (.aload_n 0, 1) := by decide +kernel
theorem dL_errors_576 : decode cL_errors 576 = .ok (.iconst 2, 1) := by decide +kernel
theorem dL_errors_577 : decode cL_errors 577 = .ok (.invokestatic 151, 3) := by decide +kernel
theorem dL_errors_580 : decode cL_errors 580 = .ok (.ldc2_w 36, 3) := by decide +kernel
theorem dL_errors_583 : decode cL_errors 583 = .ok (.lcmp, 1) := by decide +kernel
theorem dL_errors_584 : decode cL_errors 584 = .ok (.ifCond .ne 21, 3) := by decide +kernel
theorem dL_errors_587 : decode cL_errors 587 = .ok (.aload_n 0, 1) := by decide +kernel
theorem dL_errors_588 : decode cL_errors 588 = .ok (.sipush 256, 3) := by decide +kernel
theorem dL_errors_591 : decode cL_errors 591 = .ok (.invokestatic 153, 3) := by decide +kernel
theorem dL_errors_594 : decode cL_errors 594 = .ok (.ldc2_w 17, 3) := by decide +kernel
theorem dL_errors_597 : decode cL_errors 597 = .ok (.lcmp, 1) := by decide +kernel
theorem dL_errors_598 : decode cL_errors 598 = .ok (.ifCond .ne 7, 3) := by decide +kernel
theorem dL_errors_601 : decode cL_errors 601 = .ok (.iconst 1, 1) := by decide +kernel
theorem dL_errors_602 : decode cL_errors 602 = .ok (.goto 4, 3) := by decide +kernel
theorem dL_errors_605 : decode cL_errors 605 = .ok (.iconst 0, 1) := by decide +kernel
theorem dL_errors_606 : decode cL_errors 606 = .ok (.istore 5, 2) := by decide +kernel
theorem dL_errors_608 : decode cL_errors 608 = .ok (.iload 5, 2) := by decide +kernel
theorem dL_errors_610 : decode cL_errors 610 = .ok (.ifCond .eq 16, 3) := by decide +kernel
theorem dL_errors_613 : decode cL_errors 613 = .ok (.aload_n 0, 1) := by decide +kernel
theorem dL_errors_614 : decode cL_errors 614 = .ok (.invokestatic 110, 3) := by decide +kernel
theorem dL_errors_617 : decode cL_errors 617 = .ok (.lload_n 1, 1) := by decide +kernel
theorem dL_errors_618 : decode cL_errors 618 = .ok (.lcmp, 1) := by decide +kernel
theorem dL_errors_619 : decode cL_errors 619 = .ok (.ifCond .ne 7, 3) := by decide +kernel
theorem dL_errors_622 : decode cL_errors 622 = .ok (.iconst 1, 1) := by decide +kernel
theorem dL_errors_623 : decode cL_errors 623 = .ok (.goto 4, 3) := by decide +kernel
theorem dL_errors_626 : decode cL_errors 626 = .ok (.iconst 0, 1) := by decide +kernel
theorem dL_errors_627 : decode cL_errors 627 = .ok (.ireturn, 1) := by decide +kernel
theorem dL_kept_0 : decode cL_kept 0 = .ok (.aload_n 0, 1) := by decide +kernel
theorem dL_kept_1 : decode cL_kept 1 = .ok (.iconst 1, 1) := by decide +kernel
theorem dL_kept_2 : decode cL_kept 2 = .ok (.invokestatic 100, 3) := by decide +kernel
theorem dL_kept_5 : decode cL_kept 5 = .ok (.l2i, 1) := by decide +kernel
theorem dL_kept_6 : decode cL_kept 6 = .ok (.istore_n 1, 1) := by decide +kernel
theorem dL_kept_7 : decode cL_kept 7 = .ok (.iconst 1, 1) := by decide +kernel
theorem dL_kept_8 : decode cL_kept 8 = .ok (.istore_n 2, 1) := by decide +kernel
theorem dL_kept_9 : decode cL_kept 9 = .ok (.lconst 0, 1) := by decide +kernel
theorem dL_kept_10 : decode cL_kept 10 = .ok (.lstore_n 3, 1) := by decide +kernel
theorem dL_kept_11 : decode cL_kept 11 = .ok (.lconst 0, 1) := by decide +kernel
theorem dL_kept_12 : decode cL_kept 12 = .ok (.lstore 5, 2) := by decide +kernel
theorem dL_kept_14 : decode cL_kept 14 = .ok (.lconst 0, 1) := by decide +kernel
theorem dL_kept_15 : decode cL_kept 15 = .ok (.lstore 7, 2) := by decide +kernel
theorem dL_kept_17 : decode cL_kept 17 = .ok (.lconst 0, 1) := by decide +kernel
theorem dL_kept_18 : decode cL_kept 18 = .ok (.lstore 9, 2) := by decide +kernel
theorem dL_kept_20 : decode cL_kept 20 = .ok (.lconst 0, 1) := by decide +kernel
theorem dL_kept_21 : decode cL_kept 21 = .ok (.lstore 11, 2) := by decide +kernel
theorem dL_kept_23 : decode cL_kept 23 = .ok (.iconst 0, 1) := by decide +kernel
theorem dL_kept_24 : decode cL_kept 24 = .ok (.istore 13, 2) := by decide +kernel
theorem dL_kept_26 : decode cL_kept 26 = .ok (.iconst 0, 1) := by decide +kernel
theorem dL_kept_27 : decode cL_kept 27 = .ok (.istore 14, 2) := by decide +kernel
theorem dL_kept_29 : decode cL_kept 29 = .ok (.iload 14, 2) := by decide +kernel
theorem dL_kept_31 : decode cL_kept 31 = .ok (.iload_n 1, 1) := by decide +kernel
theorem dL_kept_32 : decode cL_kept 32 = .ok (.if_icmp .ge 423, 3) := by decide +kernel
theorem dL_kept_35 : decode cL_kept 35 = .ok (.iload_n 2, 1) := by decide +kernel
theorem dL_kept_36 : decode cL_kept 36 = .ok (.ifCond .eq 419, 3) := by decide +kernel
theorem dL_kept_39 : decode cL_kept 39 = .ok (.aload_n 0, 1) := by decide +kernel
theorem dL_kept_40 : decode cL_kept 40 = .ok (.iload 14, 2) := by decide +kernel
theorem dL_kept_42 : decode cL_kept 42 = .ok (.bipush 6, 2) := by decide +kernel
theorem dL_kept_44 : decode cL_kept 44 = .ok (.invokestatic 108, 3) := by decide +kernel
theorem dL_kept_47 : decode cL_kept 47 = .ok (.ldc2_w 155, 3) := by decide +kernel
theorem dL_kept_50 : decode cL_kept 50 = .ok (.lcmp, 1) := by decide +kernel
theorem dL_kept_51 : decode cL_kept 51 = .ok (.ifCond .ge 7, 3) := by decide +kernel
theorem dL_kept_54 : decode cL_kept 54 = .ok (.iconst 1, 1) := by decide +kernel
theorem dL_kept_55 : decode cL_kept 55 = .ok (.goto 4, 3) := by decide +kernel
theorem dL_kept_58 : decode cL_kept 58 = .ok (.iconst 0, 1) := by decide +kernel
theorem dL_kept_59 : decode cL_kept 59 = .ok (.istore 15, 2) := by decide +kernel
theorem dL_kept_61 : decode cL_kept 61 = .ok (.aload_n 0, 1) := by decide +kernel
theorem dL_kept_62 : decode cL_kept 62 = .ok (.iload 14, 2) := by decide +kernel
theorem dL_kept_64 : decode cL_kept 64 = .ok (.iconst 3, 1) := by decide +kernel
theorem dL_kept_65 : decode cL_kept 65 = .ok (.invokestatic 108, 3) := by decide +kernel
theorem dL_kept_68 : decode cL_kept 68 = .ok (.l2i, 1) := by decide +kernel
theorem dL_kept_69 : decode cL_kept 69 = .ok (.istore 16, 2) := by decide +kernel
theorem dL_kept_71 : decode cL_kept 71 = .ok (.aload_n 0, 1) := by decide +kernel
theorem dL_kept_72 : decode cL_kept 72 = .ok (.iload 16, 2) := by decide +kernel
theorem dL_kept_74 : decode cL_kept 74 = .ok (.iconst 2, 1) := by decide +kernel
theorem dL_kept_75 : decode cL_kept 75 = .ok (.invokestatic 105, 3) := by decide +kernel
theorem dL_kept_78 : decode cL_kept 78 = .ok (.l2i, 1) := by decide +kernel
theorem dL_kept_79 : decode cL_kept 79 = .ok (.istore 17, 2) := by decide +kernel
theorem dL_kept_81 : decode cL_kept 81 = .ok (.aload_n 0, 1) := by decide +kernel
theorem dL_kept_82 : decode cL_kept 82 = .ok (.iload 14, 2) := by decide +kernel
theorem dL_kept_84 : decode cL_kept 84 = .ok (.iconst 2, 1) := by decide +kernel
theorem dL_kept_85 : decode cL_kept 85 = .ok (.invokestatic 108, 3) := by decide +kernel
theorem dL_kept_88 : decode cL_kept 88 = .ok (.iload 16, 2) := by decide +kernel
theorem dL_kept_90 : decode cL_kept 90 = .ok (.i2l, 1) := by decide +kernel
theorem dL_kept_91 : decode cL_kept 91 = .ok (.lcmp, 1) := by decide +kernel
theorem dL_kept_92 : decode cL_kept 92 = .ok (.ifCond .eq 158, 3) := by decide +kernel
theorem dL_kept_95 : decode cL_kept 95 = .ok (.aload_n 0, 1) := by decide +kernel
theorem dL_kept_96 : decode cL_kept 96 = .ok (.iload 14, 2) := by decide +kernel
theorem dL_kept_98 : decode cL_kept 98 = .ok (.iconst 5, 1) := by decide +kernel
theorem dL_kept_99 : decode cL_kept 99 = .ok (.invokestatic 108, 3) := by decide +kernel
theorem dL_kept_102 : decode cL_kept 102 = .ok (.aload_n 0, 1) := by decide +kernel
theorem dL_kept_103 : decode cL_kept 103 = .ok (.bipush 7, 2) := by decide +kernel
theorem dL_kept_105 : decode cL_kept 105 = .ok (.invokestatic 100, 3) := by decide +kernel
theorem dL_kept_108 : decode cL_kept 108 = .ok (.lcmp, 1) := by decide +kernel
theorem dL_kept_109 : decode cL_kept 109 = .ok (.ifCond .gt 141, 3) := by decide +kernel
theorem dL_kept_112 : decode cL_kept 112 = .ok (.aload_n 0, 1) := by decide +kernel
theorem dL_kept_113 : decode cL_kept 113 = .ok (.iload 14, 2) := by decide +kernel
theorem dL_kept_115 : decode cL_kept 115 = .ok (.bipush 6, 2) := by decide +kernel
theorem dL_kept_117 : decode cL_kept 117 = .ok (.invokestatic 108, 3) := by decide +kernel
theorem dL_kept_120 : decode cL_kept 120 = .ok (.lconst 1, 1) := by decide +kernel
theorem dL_kept_121 : decode cL_kept 121 = .ok (.lcmp, 1) := by decide +kernel
theorem dL_kept_122 : decode cL_kept 122 = .ok (.ifCond .eq 18, 3) := by decide +kernel
theorem dL_kept_125 : decode cL_kept 125 = .ok (.aload_n 0, 1) := by decide +kernel
theorem dL_kept_126 : decode cL_kept 126 = .ok (.iload 14, 2) := by decide +kernel
theorem dL_kept_128 : decode cL_kept 128 = .ok (.bipush 6, 2) := by decide +kernel
theorem dL_kept_130 : decode cL_kept 130 = .ok (.invokestatic 108, 3) := by decide +kernel
theorem dL_kept_133 : decode cL_kept 133 = .ok (.ldc2_w 157, 3) := by decide +kernel
theorem dL_kept_136 : decode cL_kept 136 = .ok (.lcmp, 1) := by decide +kernel
theorem dL_kept_137 : decode cL_kept 137 = .ok (.ifCond .ne 16, 3) := by decide +kernel
theorem dL_kept_140 : decode cL_kept 140 = .ok (.aload_n 0, 1) := by decide +kernel
theorem dL_kept_141 : decode cL_kept 141 = .ok (.iload 14, 2) := by decide +kernel
theorem dL_kept_143 : decode cL_kept 143 = .ok (.bipush 7, 2) := by decide +kernel
theorem dL_kept_145 : decode cL_kept 145 = .ok (.invokestatic 108, 3) := by decide +kernel
theorem dL_kept_148 : decode cL_kept 148 = .ok (.lconst 1, 1) := by decide +kernel
theorem dL_kept_149 : decode cL_kept 149 = .ok (.lcmp, 1) := by decide +kernel
theorem dL_kept_150 : decode cL_kept 150 = .ok (.ifCond .ne 100, 3) := by decide +kernel
theorem dL_kept_153 : decode cL_kept 153 = .ok (.aload_n 0, 1) := by decide +kernel
theorem dL_kept_154 : decode cL_kept 154 = .ok (.iload 14, 2) := by decide +kernel
theorem dL_kept_156 : decode cL_kept 156 = .ok (.bipush 6, 2) := by decide +kernel
theorem dL_kept_158 : decode cL_kept 158 = .ok (.invokestatic 108, 3) := by decide +kernel
theorem dL_kept_161 : decode cL_kept 161 = .ok (.lconst 0, 1) := by decide +kernel
theorem dL_kept_162 : decode cL_kept 162 = .ok (.lcmp, 1) := by decide +kernel
theorem dL_kept_163 : decode cL_kept 163 = .ok (.ifCond .ne 16, 3) := by decide +kernel
theorem dL_kept_166 : decode cL_kept 166 = .ok (.aload_n 0, 1) := by decide +kernel
theorem dL_kept_167 : decode cL_kept 167 = .ok (.iload 14, 2) := by decide +kernel
theorem dL_kept_169 : decode cL_kept 169 = .ok (.bipush 7, 2) := by decide +kernel
theorem dL_kept_171 : decode cL_kept 171 = .ok (.invokestatic 108, 3) := by decide +kernel
theorem dL_kept_174 : decode cL_kept 174 = .ok (.lconst 0, 1) := by decide +kernel
theorem dL_kept_175 : decode cL_kept 175 = .ok (.lcmp, 1) := by decide +kernel
theorem dL_kept_176 : decode cL_kept 176 = .ok (.ifCond .ne 74, 3) := by decide +kernel
theorem dL_kept_179 : decode cL_kept 179 = .ok (.aload_n 0, 1) := by decide +kernel
theorem dL_kept_180 : decode cL_kept 180 = .ok (.iload 14, 2) := by decide +kernel
theorem dL_kept_182 : decode cL_kept 182 = .ok (.invokestatic 136, 3) := by decide +kernel
theorem dL_kept_185 : decode cL_kept 185 = .ok (.lconst 0, 1) := by decide +kernel
theorem dL_kept_186 : decode cL_kept 186 = .ok (.lcmp, 1) := by decide +kernel
theorem dL_kept_187 : decode cL_kept 187 = .ok (.ifCond .ne 7, 3) := by decide +kernel
theorem dL_kept_190 : decode cL_kept 190 = .ok (.iconst 1, 1) := by decide +kernel
theorem dL_kept_191 : decode cL_kept 191 = .ok (.goto 4, 3) := by decide +kernel
theorem dL_kept_194 : decode cL_kept 194 = .ok (.iconst 0, 1) := by decide +kernel
theorem dL_kept_195 : decode cL_kept 195 = .ok (.iload 15, 2) := by decide +kernel
theorem dL_kept_197 : decode cL_kept 197 = .ok (.ifCond .ne 7, 3) := by decide +kernel
theorem dL_kept_200 : decode cL_kept 200 = .ok (.iconst 1, 1) := by decide +kernel
theorem dL_kept_201 : decode cL_kept 201 = .ok (.goto 4, 3) := by decide +kernel
theorem dL_kept_204 : decode cL_kept 204 = .ok (.iconst 0, 1) := by decide +kernel
theorem dL_kept_205 : decode cL_kept 205 = .ok (.if_icmp .ne 45, 3) := by decide +kernel
theorem dL_kept_208 : decode cL_kept 208 = .ok (.aload_n 0, 1) := by decide +kernel
theorem dL_kept_209 : decode cL_kept 209 = .ok (.iload 14, 2) := by decide +kernel
theorem dL_kept_211 : decode cL_kept 211 = .ok (.aload_n 0, 1) := by decide +kernel
theorem dL_kept_212 : decode cL_kept 212 = .ok (.iload 14, 2) := by decide +kernel
theorem dL_kept_214 : decode cL_kept 214 = .ok (.iconst 0, 1) := by decide +kernel
theorem dL_kept_215 : decode cL_kept 215 = .ok (.invokestatic 108, 3) := by decide +kernel
theorem dL_kept_218 : decode cL_kept 218 = .ok (.l2i, 1) := by decide +kernel
theorem dL_kept_219 : decode cL_kept 219 = .ok (.invokestatic 114, 3) := by decide +kernel
theorem dL_kept_222 : decode cL_kept 222 = .ok (.ldc2_w 159, 3) := by decide +kernel
theorem dL_kept_225 : decode cL_kept 225 = .ok (.lcmp, 1) := by decide +kernel
theorem dL_kept_226 : decode cL_kept 226 = .ok (.ifCond .ne 24, 3) := by decide +kernel
theorem dL_kept_229 : decode cL_kept 229 = .ok (.aload_n 0, 1) := by decide +kernel
theorem dL_kept_230 : decode cL_kept 230 = .ok (.iload 14, 2) := by decide +kernel
theorem dL_kept_232 : decode cL_kept 232 = .ok (.iconst 0, 1) := by decide +kernel
theorem dL_kept_233 : decode cL_kept 233 = .ok (.invokestatic 114, 3) := by decide +kernel
theorem dL_kept_236 : decode cL_kept 236 = .ok (.lconst 0, 1) := by decide +kernel
theorem dL_kept_237 : decode cL_kept 237 = .ok (.ldc2_w 161, 3) := by decide +kernel
theorem dL_kept_240 : decode cL_kept 240 = .ok (.invokestatic 163, 3) := by decide +kernel
theorem dL_kept_243 : decode cL_kept 243 = .ok (.ifCond .eq 7, 3) := by decide +kernel
theorem dL_kept_246 : decode cL_kept 246 = .ok (.iconst 1, 1) := by decide +kernel
theorem dL_kept_247 : decode cL_kept 247 = .ok (.goto 4, 3) := by decide +kernel
theorem dL_kept_250 : decode cL_kept 250 = .ok (.iconst 0, 1) := by decide +kernel
theorem dL_kept_251 : decode cL_kept 251 = .ok (.istore_n 2, 1) := by decide +kernel
theorem dL_kept_252 : decode cL_kept 252 = .ok (.iload_n 2, 1) := by decide +kernel
theorem dL_kept_253 : decode cL_kept 253 = .ok (.ifCond .eq 42, 3) := by decide +kernel
theorem dL_kept_256 : decode cL_kept 256 = .ok (.iload 15, 2) := by decide +kernel
theorem dL_kept_258 : decode cL_kept 258 = .ok (.ifCond .eq 33, 3) := by decide +kernel
theorem dL_kept_261 : decode cL_kept 261 = .ok (.aload_n 0, 1) := by decide +kernel
theorem dL_kept_262 : decode cL_kept 262 = .ok (.iload 17, 2) := by decide +kernel
theorem dL_kept_264 : decode cL_kept 264 = .ok (.aload_n 0, 1) := by decide +kernel
theorem dL_kept_265 : decode cL_kept 265 = .ok (.iload 14, 2) := by decide +kernel
theorem dL_kept_267 : decode cL_kept 267 = .ok (.iconst 0, 1) := by decide +kernel
theorem dL_kept_268 : decode cL_kept 268 = .ok (.invokestatic 108, 3) := by decide +kernel
theorem dL_kept_271 : decode cL_kept 271 = .ok (.l2i, 1) := by decide +kernel
theorem dL_kept_272 : decode cL_kept 272 = .ok (.aload_n 0, 1) := by decide +kernel
theorem dL_kept_273 : decode cL_kept 273 = .ok (.iload 14, 2) := by decide +kernel
theorem dL_kept_275 : decode cL_kept 275 = .ok (.iconst 1, 1) := by decide +kernel
theorem dL_kept_276 : decode cL_kept 276 = .ok (.invokestatic 108, 3) := by decide +kernel
theorem dL_kept_279 : decode cL_kept 279 = .ok (.l2i, 1) := by decide +kernel
theorem dL_kept_280 : decode cL_kept 280 = .ok (.iconst 0, 1) := by decide +kernel
theorem dL_kept_281 : decode cL_kept 281 = .ok (.invokestatic 118, 3) := by decide +kernel
theorem dL_kept_284 : decode cL_kept 284 = .ok (.iload 16, 2) := by decide +kernel
theorem dL_kept_286 : decode cL_kept 286 = .ok (.i2l, 1) := by decide +kernel
theorem dL_kept_287 : decode cL_kept 287 = .ok (.lcmp, 1) := by decide +kernel
theorem dL_kept_288 : decode cL_kept 288 = .ok (.ifCond .ne 7, 3) := by decide +kernel
theorem dL_kept_291 : decode cL_kept 291 = .ok (.iconst 1, 1) := by decide +kernel
theorem dL_kept_292 : decode cL_kept 292 = .ok (.goto 4, 3) := by decide +kernel
theorem dL_kept_295 : decode cL_kept 295 = .ok (.iconst 0, 1) := by decide +kernel
theorem dL_kept_296 : decode cL_kept 296 = .ok (.istore_n 2, 1) := by decide +kernel
theorem dL_kept_297 : decode cL_kept 297 = .ok (.iconst 0, 1) := by decide +kernel
theorem dL_kept_298 : decode cL_kept 298 = .ok (.istore 18, 2) := by decide +kernel
theorem dL_kept_300 : decode cL_kept 300 = .ok (.iload 18, 2) := by decide +kernel
theorem dL_kept_302 : decode cL_kept 302 = .ok (.iload 14, 2) := by decide +kernel
theorem dL_kept_304 : decode cL_kept 304 = .ok (.if_icmp .ge 107, 3) := by decide +kernel
theorem dL_kept_307 : decode cL_kept 307 = .ok (.iload_n 2, 1) := by decide +kernel
theorem dL_kept_308 : decode cL_kept 308 = .ok (.ifCond .eq 103, 3) := by decide +kernel
theorem dL_kept_311 : decode cL_kept 311 = .ok (.iload 15, 2) := by decide +kernel
theorem dL_kept_313 : decode cL_kept 313 = .ok (.ifCond .eq 98, 3) := by decide +kernel
theorem dL_kept_316 : decode cL_kept 316 = .ok (.aload_n 0, 1) := by decide +kernel
theorem dL_kept_317 : decode cL_kept 317 = .ok (.iload 18, 2) := by decide +kernel
theorem dL_kept_319 : decode cL_kept 319 = .ok (.bipush 6, 2) := by decide +kernel
theorem dL_kept_321 : decode cL_kept 321 = .ok (.invokestatic 108, 3) := by decide +kernel
theorem dL_kept_324 : decode cL_kept 324 = .ok (.ldc2_w 155, 3) := by decide +kernel
theorem dL_kept_327 : decode cL_kept 327 = .ok (.lcmp, 1) := by decide +kernel
theorem dL_kept_328 : decode cL_kept 328 = .ok (.ifCond .ge 43, 3) := by decide +kernel
theorem dL_kept_331 : decode cL_kept 331 = .ok (.aload_n 0, 1) := by decide +kernel
theorem dL_kept_332 : decode cL_kept 332 = .ok (.iload 18, 2) := by decide +kernel
theorem dL_kept_334 : decode cL_kept 334 = .ok (.iconst 0, 1) := by decide +kernel
theorem dL_kept_335 : decode cL_kept 335 = .ok (.invokestatic 108, 3) := by decide +kernel
theorem dL_kept_338 : decode cL_kept 338 = .ok (.aload_n 0, 1) := by decide +kernel
theorem dL_kept_339 : decode cL_kept 339 = .ok (.iload 14, 2) := by decide +kernel
theorem dL_kept_341 : decode cL_kept 341 = .ok (.iconst 0, 1) := by decide +kernel
theorem dL_kept_342 : decode cL_kept 342 = .ok (.invokestatic 108, 3) := by decide +kernel
theorem dL_kept_345 : decode cL_kept 345 = .ok (.lcmp, 1) := by decide +kernel
theorem dL_kept_346 : decode cL_kept 346 = .ok (.ifCond .ne 25, 3) := by decide +kernel
theorem dL_kept_349 : decode cL_kept 349 = .ok (.aload_n 0, 1) := by decide +kernel
theorem dL_kept_350 : decode cL_kept 350 = .ok (.iload 18, 2) := by decide +kernel
theorem dL_kept_352 : decode cL_kept 352 = .ok (.iconst 1, 1) := by decide +kernel
theorem dL_kept_353 : decode cL_kept 353 = .ok (.invokestatic 108, 3) := by decide +kernel
theorem dL_kept_356 : decode cL_kept 356 = .ok (.aload_n 0, 1) := by decide +kernel
theorem dL_kept_357 : decode cL_kept 357 = .ok (.iload 14, 2) := by decide +kernel
theorem dL_kept_359 : decode cL_kept 359 = .ok (.iconst 1, 1) := by decide +kernel
theorem dL_kept_360 : decode cL_kept 360 = .ok (.invokestatic 108, 3) := by decide +kernel
theorem dL_kept_363 : decode cL_kept 363 = .ok (.lcmp, 1) := by decide +kernel
theorem dL_kept_364 : decode cL_kept 364 = .ok (.ifCond .ne 7, 3) := by decide +kernel
theorem dL_kept_367 : decode cL_kept 367 = .ok (.iconst 1, 1) := by decide +kernel
theorem dL_kept_368 : decode cL_kept 368 = .ok (.goto 4, 3) := by decide +kernel
theorem dL_kept_371 : decode cL_kept 371 = .ok (.iconst 0, 1) := by decide +kernel
theorem dL_kept_372 : decode cL_kept 372 = .ok (.istore 19, 2) := by decide +kernel
theorem dL_kept_374 : decode cL_kept 374 = .ok (.iload 19, 2) := by decide +kernel
theorem dL_kept_376 : decode cL_kept 376 = .ok (.ifCond .eq 23, 3) := by decide +kernel
theorem dL_kept_379 : decode cL_kept 379 = .ok (.aload_n 0, 1) := by decide +kernel
theorem dL_kept_380 : decode cL_kept 380 = .ok (.aload_n 0, 1) := by decide +kernel
theorem dL_kept_381 : decode cL_kept 381 = .ok (.iload 18, 2) := by decide +kernel
theorem dL_kept_383 : decode cL_kept 383 = .ok (.iconst 3, 1) := by decide +kernel
theorem dL_kept_384 : decode cL_kept 384 = .ok (.invokestatic 108, 3) := by decide +kernel
theorem dL_kept_387 : decode cL_kept 387 = .ok (.l2i, 1) := by decide +kernel
theorem dL_kept_388 : decode cL_kept 388 = .ok (.iconst 2, 1) := by decide +kernel
theorem dL_kept_389 : decode cL_kept 389 = .ok (.invokestatic 105, 3) := by decide +kernel
theorem dL_kept_392 : decode cL_kept 392 = .ok (.iload 17, 2) := by decide +kernel
theorem dL_kept_394 : decode cL_kept 394 = .ok (.i2l, 1) := by decide +kernel
theorem dL_kept_395 : decode cL_kept 395 = .ok (.lcmp, 1) := by decide +kernel
theorem dL_kept_396 : decode cL_kept 396 = .ok (.ifCond .eq 7, 3) := by decide +kernel
theorem dL_kept_399 : decode cL_kept 399 = .ok (.iconst 1, 1) := by decide +kernel
theorem dL_kept_400 : decode cL_kept 400 = .ok (.goto 4, 3) := by decide +kernel
theorem dL_kept_403 : decode cL_kept 403 = .ok (.iconst 0, 1) := by decide +kernel
theorem dL_kept_404 : decode cL_kept 404 = .ok (.istore_n 2, 1) := by decide +kernel
theorem dL_kept_405 : decode cL_kept 405 = .ok (.iinc 18 1, 3) := by decide +kernel
theorem dL_kept_408 : decode cL_kept 408 = .ok (.goto (-108), 3) := by decide +kernel
theorem dL_kept_411 : decode cL_kept 411 = .ok (.lload_n 3, 1) := by decide +kernel
theorem dL_kept_412 : decode cL_kept 412 = .ok (.aload_n 0, 1) := by decide +kernel
theorem dL_kept_413 : decode cL_kept 413 = .ok (.iload 14, 2) := by decide +kernel
theorem dL_kept_415 : decode cL_kept 415 = .ok (.iconst 4, 1) := by decide +kernel
theorem dL_kept_416 : decode cL_kept 416 = .ok (.invokestatic 108, 3) := by decide +kernel
theorem dL_kept_419 : decode cL_kept 419 = .ok (.ladd, 1) := by decide +kernel
theorem dL_kept_420 : decode cL_kept 420 = .ok (.lstore_n 3, 1) := by decide +kernel
theorem dL_kept_421 : decode cL_kept 421 = .ok (.iload 13, 2) := by decide +kernel
theorem dL_kept_423 : decode cL_kept 423 = .ok (.iload 15, 2) := by decide +kernel
theorem dL_kept_425 : decode cL_kept 425 = .ok (.ifCond .eq 7, 3) := by decide +kernel
theorem dL_kept_428 : decode cL_kept 428 = .ok (.iconst 1, 1) := by decide +kernel
theorem dL_kept_429 : decode cL_kept 429 = .ok (.goto 4, 3) := by decide +kernel
theorem dL_kept_432 : decode cL_kept 432 = .ok (.iconst 0, 1) := by decide +kernel
theorem dL_kept_433 : decode cL_kept 433 = .ok (.iadd, 1) := by decide +kernel
theorem dL_kept_434 : decode cL_kept 434 = .ok (.istore 13, 2) := by decide +kernel
theorem dL_kept_436 : decode cL_kept 436 = .ok (.lload 11, 2) := by decide +kernel
theorem dL_kept_438 : decode cL_kept 438 = .ok (.aload_n 0, 1) := by decide +kernel
theorem dL_kept_439 : decode cL_kept 439 = .ok (.iload 14, 2) := by decide +kernel
theorem dL_kept_441 : decode cL_kept 441 = .ok (.bipush 7, 2) := by decide +kernel
theorem dL_kept_443 : decode cL_kept 443 = .ok (.invokestatic 108, 3) := by decide +kernel
theorem dL_kept_446 : decode cL_kept 446 = .ok (.ladd, 1) := by decide +kernel
theorem dL_kept_447 : decode cL_kept 447 = .ok (.lstore 11, 2) := by decide +kernel
theorem dL_kept_449 : decode cL_kept 449 = .ok (.iinc 14 1, 3) := by decide +kernel
theorem dL_kept_452 : decode cL_kept 452 = .ok (.goto (-423), 3) := by decide +kernel
theorem dL_kept_455 : decode cL_kept 455 = .ok (.lconst 0, 1) := by decide +kernel
theorem dL_kept_456 : decode cL_kept 456 = .ok (.lstore 14, 2) := by decide +kernel
theorem dL_kept_458 : decode cL_kept 458 = .ok (.lconst 0, 1) := by decide +kernel
theorem dL_kept_459 : decode cL_kept 459 = .ok (.lstore 16, 2) := by decide +kernel
theorem dL_kept_461 : decode cL_kept 461 = .ok (.lconst 0, 1) := by decide +kernel
theorem dL_kept_462 : decode cL_kept 462 = .ok (.lstore 18, 2) := by decide +kernel
theorem dL_kept_464 : decode cL_kept 464 = .ok (.iconst 0, 1) := by decide +kernel
theorem dL_kept_465 : decode cL_kept 465 = .ok (.istore 20, 2) := by decide +kernel
theorem dL_kept_467 : decode cL_kept 467 = .ok (.iload 20, 2) := by decide +kernel
theorem dL_kept_469 : decode cL_kept 469 = .ok (.i2l, 1) := by decide +kernel
theorem dL_kept_470 : decode cL_kept 470 = .ok (.aload_n 0, 1) := by decide +kernel
theorem dL_kept_471 : decode cL_kept 471 = .ok (.iconst 0, 1) := by decide +kernel
theorem dL_kept_472 : decode cL_kept 472 = .ok (.invokestatic 100, 3) := by decide +kernel
theorem dL_kept_475 : decode cL_kept 475 = .ok (.lcmp, 1) := by decide +kernel
theorem dL_kept_476 : decode cL_kept 476 = .ok (.ifCond .ge 163, 3) := by decide +kernel
theorem dL_kept_479 : decode cL_kept 479 = .ok (.iload_n 2, 1) := by decide +kernel
theorem dL_kept_480 : decode cL_kept 480 = .ok (.ifCond .eq 159, 3) := by decide +kernel
theorem dL_kept_483 : decode cL_kept 483 = .ok (.aload_n 0, 1) := by decide +kernel
theorem dL_kept_484 : decode cL_kept 484 = .ok (.iload 20, 2) := by decide +kernel
theorem dL_kept_486 : decode cL_kept 486 = .ok (.iconst 3, 1) := by decide +kernel
theorem dL_kept_487 : decode cL_kept 487 = .ok (.invokestatic 105, 3) := by decide +kernel
theorem dL_kept_490 : decode cL_kept 490 = .ok (.lconst 0, 1) := by decide +kernel
theorem dL_kept_491 : decode cL_kept 491 = .ok (.ldc2_w 167, 3) := by decide +kernel
theorem dL_kept_494 : decode cL_kept 494 = .ok (.invokestatic 163, 3) := by decide +kernel
theorem dL_kept_497 : decode cL_kept 497 = .ok (.ifCond .eq 42, 3) := by decide +kernel
theorem dL_kept_500 : decode cL_kept 500 = .ok (.aload_n 0, 1) := by decide +kernel
theorem dL_kept_501 : decode cL_kept 501 = .ok (.iload 20, 2) := by decide +kernel
theorem dL_kept_503 : decode cL_kept 503 = .ok (.bipush 6, 2) := by decide +kernel
theorem dL_kept_505 : decode cL_kept 505 = .ok (.invokestatic 105, 3) := by decide +kernel
theorem dL_kept_508 : decode cL_kept 508 = .ok (.aload_n 0, 1) := by decide +kernel
theorem dL_kept_509 : decode cL_kept 509 = .ok (.iload 20, 2) := by decide +kernel
theorem dL_kept_511 : decode cL_kept 511 = .ok (.iconst 5, 1) := by decide +kernel
theorem dL_kept_512 : decode cL_kept 512 = .ok (.invokestatic 105, 3) := by decide +kernel
theorem dL_kept_515 : decode cL_kept 515 = .ok (.lcmp, 1) := by decide +kernel
theorem dL_kept_516 : decode cL_kept 516 = .ok (.ifCond .gt 23, 3) := by decide +kernel
theorem dL_kept_519 : decode cL_kept 519 = .ok (.aload_n 0, 1) := by decide +kernel
theorem dL_kept_520 : decode cL_kept 520 = .ok (.iload 20, 2) := by decide +kernel
theorem dL_kept_522 : decode cL_kept 522 = .ok (.iconst 4, 1) := by decide +kernel
theorem dL_kept_523 : decode cL_kept 523 = .ok (.invokestatic 105, 3) := by decide +kernel
theorem dL_kept_526 : decode cL_kept 526 = .ok (.aload_n 0, 1) := by decide +kernel
theorem dL_kept_527 : decode cL_kept 527 = .ok (.iconst 0, 1) := by decide +kernel
theorem dL_kept_528 : decode cL_kept 528 = .ok (.invokestatic 100, 3) := by decide +kernel
theorem dL_kept_531 : decode cL_kept 531 = .ok (.lcmp, 1) := by decide +kernel
theorem dL_kept_532 : decode cL_kept 532 = .ok (.ifCond .ge 7, 3) := by decide +kernel
theorem dL_kept_535 : decode cL_kept 535 = .ok (.iconst 1, 1) := by decide +kernel
theorem dL_kept_536 : decode cL_kept 536 = .ok (.goto 4, 3) := by decide +kernel
theorem dL_kept_539 : decode cL_kept 539 = .ok (.iconst 0, 1) := by decide +kernel
theorem dL_kept_540 : decode cL_kept 540 = .ok (.istore_n 2, 1) := by decide +kernel
theorem dL_kept_541 : decode cL_kept 541 = .ok (.lload 14, 2) := by decide +kernel
theorem dL_kept_543 : decode cL_kept 543 = .ok (.aload_n 0, 1) := by decide +kernel
theorem dL_kept_544 : decode cL_kept 544 = .ok (.iload 20, 2) := by decide +kernel
theorem dL_kept_546 : decode cL_kept 546 = .ok (.iconst 3, 1) := by decide +kernel
theorem dL_kept_547 : decode cL_kept 547 = .ok (.invokestatic 105, 3) := by decide +kernel
theorem dL_kept_550 : decode cL_kept 550 = .ok (.ladd, 1) := by decide +kernel
theorem dL_kept_551 : decode cL_kept 551 = .ok (.lstore 14, 2) := by decide +kernel
theorem dL_kept_553 : decode cL_kept 553 = .ok (.lload 9, 2) := by decide +kernel
theorem dL_kept_555 : decode cL_kept 555 = .ok (.aload_n 0, 1) := by decide +kernel
theorem dL_kept_556 : decode cL_kept 556 = .ok (.iload 20, 2) := by decide +kernel
theorem dL_kept_558 : decode cL_kept 558 = .ok (.iconst 5, 1) := by decide +kernel
theorem dL_kept_559 : decode cL_kept 559 = .ok (.invokestatic 105, 3) := by decide +kernel
theorem dL_kept_562 : decode cL_kept 562 = .ok (.ladd, 1) := by decide +kernel
theorem dL_kept_563 : decode cL_kept 563 = .ok (.lstore 9, 2) := by decide +kernel
theorem dL_kept_565 : decode cL_kept 565 = .ok (.lload 16, 2) := by decide +kernel
theorem dL_kept_567 : decode cL_kept 567 = .ok (.aload_n 0, 1) := by decide +kernel
theorem dL_kept_568 : decode cL_kept 568 = .ok (.iload 20, 2) := by decide +kernel
theorem dL_kept_570 : decode cL_kept 570 = .ok (.bipush 6, 2) := by decide +kernel
theorem dL_kept_572 : decode cL_kept 572 = .ok (.invokestatic 105, 3) := by decide +kernel
theorem dL_kept_575 : decode cL_kept 575 = .ok (.ladd, 1) := by decide +kernel
theorem dL_kept_576 : decode cL_kept 576 = .ok (.lstore 16, 2) := by decide +kernel
theorem dL_kept_578 : decode cL_kept 578 = .ok (.lload 5, 2) := by decide +kernel
theorem dL_kept_580 : decode cL_kept 580 = .ok (.aload_n 0, 1) := by decide +kernel
theorem dL_kept_581 : decode cL_kept 581 = .ok (.iload 20, 2) := by decide +kernel
theorem dL_kept_583 : decode cL_kept 583 = .ok (.bipush 7, 2) := by decide +kernel
theorem dL_kept_585 : decode cL_kept 585 = .ok (.invokestatic 105, 3) := by decide +kernel
theorem dL_kept_588 : decode cL_kept 588 = .ok (.ladd, 1) := by decide +kernel
theorem dL_kept_589 : decode cL_kept 589 = .ok (.lstore 5, 2) := by decide +kernel
theorem dL_kept_591 : decode cL_kept 591 = .ok (.lload 7, 2) := by decide +kernel
theorem dL_kept_593 : decode cL_kept 593 = .ok (.aload_n 0, 1) := by decide +kernel
theorem dL_kept_594 : decode cL_kept 594 = .ok (.iload 20, 2) := by decide +kernel
theorem dL_kept_596 : decode cL_kept 596 = .ok (.bipush 8, 2) := by decide +kernel
theorem dL_kept_598 : decode cL_kept 598 = .ok (.invokestatic 105, 3) := by decide +kernel
theorem dL_kept_601 : decode cL_kept 601 = .ok (.ladd, 1) := by decide +kernel
theorem dL_kept_602 : decode cL_kept 602 = .ok (.lstore 7, 2) := by decide +kernel
theorem dL_kept_604 : decode cL_kept 604 = .ok (.aload_n 0, 1) := by decide +kernel
theorem dL_kept_605 : decode cL_kept 605 = .ok (.iload 20, 2) := by decide +kernel
theorem dL_kept_607 : decode cL_kept 607 = .ok (.bipush 7, 2) := by decide +kernel
theorem dL_kept_609 : decode cL_kept 609 = .ok (.invokestatic 105, 3) := by decide +kernel
theorem dL_kept_612 : decode cL_kept 612 = .ok (.lload 18, 2) := by decide +kernel
theorem dL_kept_614 : decode cL_kept 614 = .ok (.lcmp, 1) := by decide +kernel
theorem dL_kept_615 : decode cL_kept 615 = .ok (.ifCond .le 14, 3) := by decide +kernel
theorem dL_kept_618 : decode cL_kept 618 = .ok (.aload_n 0, 1) := by decide +kernel
theorem dL_kept_619 : decode cL_kept 619 = .ok (.iload 20, 2) := by decide +kernel
theorem dL_kept_621 : decode cL_kept 621 = .ok (.bipush 7, 2) := by decide +kernel
theorem dL_kept_623 : decode cL_kept 623 = .ok (.invokestatic 105, 3) := by decide +kernel
theorem dL_kept_626 : decode cL_kept 626 = .ok (.goto 5, 3) := by decide +kernel
theorem dL_kept_629 : decode cL_kept 629 = .ok (.lload 18, 2) := by decide +kernel
theorem dL_kept_631 : decode cL_kept 631 = .ok (.lstore 18, 2) := by decide +kernel
theorem dL_kept_633 : decode cL_kept 633 = .ok (.iinc 20 1, 3) := by decide +kernel
theorem dL_kept_636 : decode cL_kept 636 = .ok (.goto (-169), 3) := by decide +kernel
theorem dL_kept_639 : decode cL_kept 639 = .ok (.lconst 0, 1) := by decide +kernel
theorem dL_kept_640 : decode cL_kept 640 = .ok (.lstore 20, 2) := by decide +kernel
theorem dL_kept_642 : decode cL_kept 642 = .ok (.iconst 0, 1) := by decide +kernel
theorem dL_kept_643 : decode cL_kept 643 = .ok (.istore 22, 2) := by decide +kernel
theorem dL_kept_645 : decode cL_kept 645 = .ok (.iload 22, 2) := by decide +kernel
theorem dL_kept_647 : decode cL_kept 647 = .ok (.iconst 5, 1) := by decide +kernel
theorem dL_kept_648 : decode cL_kept 648 = .ok (.if_icmp .ge 22, 3) := by decide +kernel
theorem dL_kept_651 : decode cL_kept 651 = .ok (.lload 20, 2) := by decide +kernel
theorem dL_kept_653 : decode cL_kept 653 = .ok (.aload_n 0, 1) := by decide +kernel
theorem dL_kept_654 : decode cL_kept 654 = .ok (.iconst 2, 1) := by decide +kernel
theorem dL_kept_655 : decode cL_kept 655 = .ok (.iload 22, 2) := by decide +kernel
theorem dL_kept_657 : decode cL_kept 657 = .ok (.iadd, 1) := by decide +kernel
theorem dL_kept_658 : decode cL_kept 658 = .ok (.invokestatic 100, 3) := by decide +kernel
theorem dL_kept_661 : decode cL_kept 661 = .ok (.ladd, 1) := by decide +kernel
theorem dL_kept_662 : decode cL_kept 662 = .ok (.lstore 20, 2) := by decide +kernel
theorem dL_kept_664 : decode cL_kept 664 = .ok (.iinc 22 1, 3) := by decide +kernel
theorem dL_kept_667 : decode cL_kept 667 = .ok (.goto (-22), 3) := by decide +kernel
theorem dL_kept_670 : decode cL_kept 670 = .ok (.iconst 0, 1) := by decide +kernel
theorem dL_kept_671 : decode cL_kept 671 = .ok (.istore 22, 2) := by decide +kernel
theorem dL_kept_673 : decode cL_kept 673 = .ok (.iload 22, 2) := by decide +kernel
theorem dL_kept_675 : decode cL_kept 675 = .ok (.iload 13, 2) := by decide +kernel
theorem dL_kept_677 : decode cL_kept 677 = .ok (.if_icmp .ge 78, 3) := by decide +kernel
theorem dL_kept_680 : decode cL_kept 680 = .ok (.iload_n 2, 1) := by decide +kernel
theorem dL_kept_681 : decode cL_kept 681 = .ok (.ifCond .eq 74, 3) := by decide +kernel
theorem dL_kept_684 : decode cL_kept 684 = .ok (.aload_n 0, 1) := by decide +kernel
theorem dL_kept_685 : decode cL_kept 685 = .ok (.iload 22, 2) := by decide +kernel
theorem dL_kept_687 : decode cL_kept 687 = .ok (.invokestatic 116, 3) := by decide +kernel
theorem dL_kept_690 : decode cL_kept 690 = .ok (.l2i, 1) := by decide +kernel
theorem dL_kept_691 : decode cL_kept 691 = .ok (.istore 23, 2) := by decide +kernel
theorem dL_kept_693 : decode cL_kept 693 = .ok (.iload 23, 2) := by decide +kernel
theorem dL_kept_695 : decode cL_kept 695 = .ok (.ifCond .lt 52, 3) := by decide +kernel
theorem dL_kept_698 : decode cL_kept 698 = .ok (.aload_n 0, 1) := by decide +kernel
theorem dL_kept_699 : decode cL_kept 699 = .ok (.iload 23, 2) := by decide +kernel
theorem dL_kept_701 : decode cL_kept 701 = .ok (.bipush 6, 2) := by decide +kernel
theorem dL_kept_703 : decode cL_kept 703 = .ok (.invokestatic 108, 3) := by decide +kernel
theorem dL_kept_706 : decode cL_kept 706 = .ok (.ldc2_w 155, 3) := by decide +kernel
theorem dL_kept_709 : decode cL_kept 709 = .ok (.lcmp, 1) := by decide +kernel
theorem dL_kept_710 : decode cL_kept 710 = .ok (.ifCond .ge 37, 3) := by decide +kernel
theorem dL_kept_713 : decode cL_kept 713 = .ok (.iload 22, 2) := by decide +kernel
theorem dL_kept_715 : decode cL_kept 715 = .ok (.ifCond .eq 28, 3) := by decide +kernel
theorem dL_kept_718 : decode cL_kept 718 = .ok (.aload_n 0, 1) := by decide +kernel
theorem dL_kept_719 : decode cL_kept 719 = .ok (.aload_n 0, 1) := by decide +kernel
theorem dL_kept_720 : decode cL_kept 720 = .ok (.iload 22, 2) := by decide +kernel
theorem dL_kept_722 : decode cL_kept 722 = .ok (.iconst 1, 1) := by decide +kernel
theorem dL_kept_723 : decode cL_kept 723 = .ok (.isub, 1) := by decide +kernel
theorem dL_kept_724 : decode cL_kept 724 = .ok (.invokestatic 116, 3) := by decide +kernel
theorem dL_kept_727 : decode cL_kept 727 = .ok (.l2i, 1) := by decide +kernel
theorem dL_kept_728 : decode cL_kept 728 = .ok (.iconst 0, 1) := by decide +kernel
theorem dL_kept_729 : decode cL_kept 729 = .ok (.invokestatic 114, 3) := by decide +kernel
theorem dL_kept_732 : decode cL_kept 732 = .ok (.aload_n 0, 1) := by decide +kernel
theorem dL_kept_733 : decode cL_kept 733 = .ok (.iload 23, 2) := by decide +kernel
theorem dL_kept_735 : decode cL_kept 735 = .ok (.iconst 0, 1) := by decide +kernel
theorem dL_kept_736 : decode cL_kept 736 = .ok (.invokestatic 114, 3) := by decide +kernel
theorem dL_kept_739 : decode cL_kept 739 = .ok (.lcmp, 1) := by decide +kernel
theorem dL_kept_740 : decode cL_kept 740 = .ok (.ifCond .gt 7, 3) := by decide +kernel
theorem dL_kept_743 : decode cL_kept 743 = .ok (.iconst 1, 1) := by decide +kernel
theorem dL_kept_744 : decode cL_kept 744 = .ok (.goto 4, 3) := by decide +kernel
theorem dL_kept_747 : decode cL_kept 747 = .ok (.iconst 0, 1) := by decide +kernel
theorem dL_kept_748 : decode cL_kept 748 = .ok (.istore_n 2, 1) := by decide +kernel
theorem dL_kept_749 : decode cL_kept 749 = .ok (.iinc 22 1, 3) := by decide +kernel
theorem dL_kept_752 : decode cL_kept 752 = .ok (.goto (-79), 3) := by decide +kernel
theorem dL_kept_755 : decode cL_kept 755 = .ok (.iload_n 2, 1) := by decide +kernel
theorem dL_kept_756 : decode cL_kept 756 = .ok (.ifCond .eq 143, 3) := by decide +kernel
theorem dL_kept_759 : decode cL_kept 759 = .ok (.aload_n 0, 1) := by decide +kernel
theorem dL_kept_760 : decode cL_kept 760 = .ok (.iload 13, 2) := by decide +kernel
theorem dL_kept_762 : decode cL_kept 762 = .ok (.invokestatic 116, 3) := by decide +kernel
theorem dL_kept_765 : decode cL_kept 765 = .ok (.ldc2_w 159, 3) := by decide +kernel
theorem dL_kept_768 : decode cL_kept 768 = .ok (.lcmp, 1) := by decide +kernel
theorem dL_kept_769 : decode cL_kept 769 = .ok (.ifCond .ne 130, 3) := by decide +kernel
theorem dL_kept_772 : decode cL_kept 772 = .ok (.lload 14, 2) := by decide +kernel
theorem dL_kept_774 : decode cL_kept 774 = .ok (.iload 13, 2) := by decide +kernel
theorem dL_kept_776 : decode cL_kept 776 = .ok (.i2l, 1) := by decide +kernel
theorem dL_kept_777 : decode cL_kept 777 = .ok (.lcmp, 1) := by decide +kernel
theorem dL_kept_778 : decode cL_kept 778 = .ok (.ifCond .ne 121, 3) := by decide +kernel
theorem dL_kept_781 : decode cL_kept 781 = .ok (.lload 9, 2) := by decide +kernel
theorem dL_kept_783 : decode cL_kept 783 = .ok (.iload_n 1, 1) := by decide +kernel
theorem dL_kept_784 : decode cL_kept 784 = .ok (.i2l, 1) := by decide +kernel
theorem dL_kept_785 : decode cL_kept 785 = .ok (.lcmp, 1) := by decide +kernel
theorem dL_kept_786 : decode cL_kept 786 = .ok (.ifCond .ne 113, 3) := by decide +kernel
theorem dL_kept_789 : decode cL_kept 789 = .ok (.lload 16, 2) := by decide +kernel
theorem dL_kept_791 : decode cL_kept 791 = .ok (.lload 11, 2) := by decide +kernel
theorem dL_kept_793 : decode cL_kept 793 = .ok (.lcmp, 1) := by decide +kernel
theorem dL_kept_794 : decode cL_kept 794 = .ok (.ifCond .ne 105, 3) := by decide +kernel
theorem dL_kept_797 : decode cL_kept 797 = .ok (.lload 5, 2) := by decide +kernel
theorem dL_kept_799 : decode cL_kept 799 = .ok (.aload_n 0, 1) := by decide +kernel
theorem dL_kept_800 : decode cL_kept 800 = .ok (.bipush 9, 2) := by decide +kernel
theorem dL_kept_802 : decode cL_kept 802 = .ok (.invokestatic 100, 3) := by decide +kernel
theorem dL_kept_805 : decode cL_kept 805 = .ok (.lcmp, 1) := by decide +kernel
theorem dL_kept_806 : decode cL_kept 806 = .ok (.ifCond .ne 93, 3) := by decide +kernel
theorem dL_kept_809 : decode cL_kept 809 = .ok (.lload 7, 2) := by decide +kernel
theorem dL_kept_811 : decode cL_kept 811 = .ok (.lload 5, 2) := by decide +kernel
theorem dL_kept_813 : decode cL_kept 813 = .ok (.lcmp, 1) := by decide +kernel
theorem dL_kept_814 : decode cL_kept 814 = .ok (.ifCond .ne 85, 3) := by decide +kernel
theorem dL_kept_817 : decode cL_kept 817 = .ok (.lload_n 3, 1) := by decide +kernel
theorem dL_kept_818 : decode cL_kept 818 = .ok (.aload_n 0, 1) := by decide +kernel
theorem dL_kept_819 : decode cL_kept 819 = .ok (.bipush 8, 2) := by decide +kernel
theorem dL_kept_821 : decode cL_kept 821 = .ok (.invokestatic 100, 3) := by decide +kernel
theorem dL_kept_824 : decode cL_kept 824 = .ok (.lcmp, 1) := by decide +kernel
theorem dL_kept_825 : decode cL_kept 825 = .ok (.ifCond .ne 74, 3) := by decide +kernel
theorem dL_kept_828 : decode cL_kept 828 = .ok (.lload 20, 2) := by decide +kernel
theorem dL_kept_830 : decode cL_kept 830 = .ok (.iload_n 1, 1) := by decide +kernel
theorem dL_kept_831 : decode cL_kept 831 = .ok (.i2l, 1) := by decide +kernel
theorem dL_kept_832 : decode cL_kept 832 = .ok (.lcmp, 1) := by decide +kernel
theorem dL_kept_833 : decode cL_kept 833 = .ok (.ifCond .ne 66, 3) := by decide +kernel
theorem dL_kept_836 : decode cL_kept 836 = .ok (.aload_n 0, 1) := by decide +kernel
theorem dL_kept_837 : decode cL_kept 837 = .ok (.invokevirtual 169, 3) := by decide +kernel
theorem dL_kept_840 : decode cL_kept 840 = .ok (.iconst (-1), 1) := by decide +kernel
theorem dL_kept_841 : decode cL_kept 841 = .ok (.if_icmp .ne 7, 3) := by decide +kernel
theorem dL_kept_844 : decode cL_kept 844 = .ok (.iconst 1, 1) := by decide +kernel
theorem dL_kept_845 : decode cL_kept 845 = .ok (.goto 4, 3) := by decide +kernel
theorem dL_kept_848 : decode cL_kept 848 = .ok (.iconst 0, 1) := by decide +kernel
theorem dL_kept_849 : decode cL_kept 849 = .ok (.iload_n 1, 1) := by decide +kernel
theorem dL_kept_850 : decode cL_kept 850 = .ok (.ifCond .ne 7, 3) := by decide +kernel
theorem dL_kept_853 : decode cL_kept 853 = .ok (.iconst 1, 1) := by decide +kernel
theorem dL_kept_854 : decode cL_kept 854 = .ok (.goto 4, 3) := by decide +kernel
theorem dL_kept_857 : decode cL_kept 857 = .ok (.iconst 0, 1) := by decide +kernel
theorem dL_kept_858 : decode cL_kept 858 = .ok (.if_icmp .ne 41, 3) := by decide +kernel
theorem dL_kept_861 : decode cL_kept 861 = .ok (.lload 18, 2) := by decide +kernel
theorem dL_kept_863 : decode cL_kept 863 = .ok (.lconst 0, 1) := by decide +kernel
theorem dL_kept_864 : decode cL_kept 864 = .ok (.lcmp, 1) := by decide +kernel
theorem dL_kept_865 : decode cL_kept 865 = .ok (.ifCond .ne 14, 3) := by decide +kernel
theorem dL_kept_868 : decode cL_kept 868 = .ok (.aload_n 0, 1) := by decide +kernel
theorem dL_kept_869 : decode cL_kept 869 = .ok (.invokevirtual 172, 3) := by decide +kernel
theorem dL_kept_872 : decode cL_kept 872 = .ok (.iconst (-1), 1) := by decide +kernel
theorem dL_kept_873 : decode cL_kept 873 = .ok (.if_icmp .ne 26, 3) := by decide +kernel
theorem dL_kept_876 : decode cL_kept 876 = .ok (.goto 19, 3) := by decide +kernel
theorem dL_kept_879 : decode cL_kept 879 = .ok (.aload_n 0, 1) := by decide +kernel
theorem dL_kept_880 : decode cL_kept 880 = .ok (.aload_n 0, 1) := by decide +kernel
theorem dL_kept_881 : decode cL_kept 881 = .ok (.invokevirtual 172, 3) := by decide +kernel
theorem dL_kept_884 : decode cL_kept 884 = .ok (.bipush 7, 2) := by decide +kernel
theorem dL_kept_886 : decode cL_kept 886 = .ok (.invokestatic 105, 3) := by decide +kernel
theorem dL_kept_889 : decode cL_kept 889 = .ok (.lload 18, 2) := by decide +kernel
theorem dL_kept_891 : decode cL_kept 891 = .ok (.lcmp, 1) := by decide +kernel
theorem dL_kept_892 : decode cL_kept 892 = .ok (.ifCond .ne 7, 3) := by decide +kernel
theorem dL_kept_895 : decode cL_kept 895 = .ok (.iconst 1, 1) := by decide +kernel
theorem dL_kept_896 : decode cL_kept 896 = .ok (.goto 4, 3) := by decide +kernel
theorem dL_kept_899 : decode cL_kept 899 = .ok (.iconst 0, 1) := by decide +kernel
theorem dL_kept_900 : decode cL_kept 900 = .ok (.ireturn, 1) := by decide +kernel
theorem dL_follows_0 : decode cL_follows 0 = .ok (.aload_n 0, 1) := by decide +kernel
theorem dL_follows_1 : decode cL_follows 1 = .ok (.invokestatic 110, 3) := by decide +kernel
theorem dL_follows_4 : decode cL_follows 4 = .ok (.lstore_n 2, 1) := by decide +kernel
theorem dL_follows_5 : decode cL_follows 5 = .ok (.aload_n 0, 1) := by decide +kernel
theorem dL_follows_6 : decode cL_follows 6 = .ok (.iconst 1, 1) := by decide +kernel
theorem dL_follows_7 : decode cL_follows 7 = .ok (.invokestatic 149, 3) := by decide +kernel
theorem dL_follows_10 : decode cL_follows 10 = .ok (.aload_n 0, 1) := by decide +kernel
theorem dL_follows_11 : decode cL_follows 11 = .ok (.iconst 1, 1) := by decide +kernel
theorem dL_follows_12 : decode cL_follows 12 = .ok (.invokestatic 100, 3) := by decide +kernel
theorem dL_follows_15 : decode cL_follows 15 = .ok (.lcmp, 1) := by decide +kernel
theorem dL_follows_16 : decode cL_follows 16 = .ok (.ifCond .ne 36, 3) := by decide +kernel
theorem dL_follows_19 : decode cL_follows 19 = .ok (.aload_n 0, 1) := by decide +kernel
theorem dL_follows_20 : decode cL_follows 20 = .ok (.iload_n 1, 1) := by decide +kernel
theorem dL_follows_21 : decode cL_follows 21 = .ok (.i2l, 1) := by decide +kernel
theorem dL_follows_22 : decode cL_follows 22 = .ok (.bipush 6, 2) := by decide +kernel
theorem dL_follows_24 : decode cL_follows 24 = .ok (.invokestatic 146, 3) := by decide +kernel
theorem dL_follows_27 : decode cL_follows 27 = .ok (.aload_n 0, 1) := by decide +kernel
theorem dL_follows_28 : decode cL_follows 28 = .ok (.iload_n 1, 1) := by decide +kernel
theorem dL_follows_29 : decode cL_follows 29 = .ok (.i2l, 1) := by decide +kernel
theorem dL_follows_30 : decode cL_follows 30 = .ok (.bipush 6, 2) := by decide +kernel
theorem dL_follows_32 : decode cL_follows 32 = .ok (.invokestatic 146, 3) := by decide +kernel
theorem dL_follows_35 : decode cL_follows 35 = .ok (.lcmp, 1) := by decide +kernel
theorem dL_follows_36 : decode cL_follows 36 = .ok (.ifCond .ne 16, 3) := by decide +kernel
theorem dL_follows_39 : decode cL_follows 39 = .ok (.aload_n 0, 1) := by decide +kernel
theorem dL_follows_40 : decode cL_follows 40 = .ok (.invokestatic 110, 3) := by decide +kernel
theorem dL_follows_43 : decode cL_follows 43 = .ok (.lload_n 2, 1) := by decide +kernel
theorem dL_follows_44 : decode cL_follows 44 = .ok (.lcmp, 1) := by decide +kernel
theorem dL_follows_45 : decode cL_follows 45 = .ok (.ifCond .ne 7, 3) := by decide +kernel
theorem dL_follows_48 : decode cL_follows 48 = .ok (.iconst 1, 1) := by decide +kernel
theorem dL_follows_49 : decode cL_follows 49 = .ok (.goto 4, 3) := by decide +kernel
theorem dL_follows_52 : decode cL_follows 52 = .ok (.iconst 0, 1) := by decide +kernel
theorem dL_follows_53 : decode cL_follows 53 = .ok (.istore 4, 2) := by decide +kernel
theorem dL_follows_55 : decode cL_follows 55 = .ok (.aload_n 0, 1) := by decide +kernel
theorem dL_follows_56 : decode cL_follows 56 = .ok (.iconst 0, 1) := by decide +kernel
theorem dL_follows_57 : decode cL_follows 57 = .ok (.invokestatic 100, 3) := by decide +kernel
theorem dL_follows_60 : decode cL_follows 60 = .ok (.lconst 0, 1) := by decide +kernel
theorem dL_follows_61 : decode cL_follows 61 = .ok (.lcmp, 1) := by decide +kernel
theorem dL_follows_62 : decode cL_follows 62 = .ok (.ifCond .le 280, 3) := by decide +kernel
theorem dL_follows_65 : decode cL_follows 65 = .ok (.aload_n 0, 1) := by decide +kernel
theorem dL_follows_66 : decode cL_follows 66 = .ok (.bipush 7, 2) := by decide +kernel
theorem dL_follows_68 : decode cL_follows 68 = .ok (.invokestatic 100, 3) := by decide +kernel
theorem dL_follows_71 : decode cL_follows 71 = .ok (.ldc2_w 175, 3) := by decide +kernel
theorem dL_follows_74 : decode cL_follows 74 = .ok (.lcmp, 1) := by decide +kernel
theorem dL_follows_75 : decode cL_follows 75 = .ok (.ifCond .ge 267, 3) := by decide +kernel
theorem dL_follows_78 : decode cL_follows 78 = .ok (.iload 4, 2) := by decide +kernel
theorem dL_follows_80 : decode cL_follows 80 = .ok (.ifCond .eq 262, 3) := by decide +kernel
theorem dL_follows_83 : decode cL_follows 83 = .ok (.iload_n 1, 1) := by decide +kernel
theorem dL_follows_84 : decode cL_follows 84 = .ok (.aload_n 0, 1) := by decide +kernel
theorem dL_follows_85 : decode cL_follows 85 = .ok (.iconst 0, 1) := by decide +kernel
theorem dL_follows_86 : decode cL_follows 86 = .ok (.invokestatic 100, 3) := by decide +kernel
theorem dL_follows_89 : decode cL_follows 89 = .ok (.l2i, 1) := by decide +kernel
theorem dL_follows_90 : decode cL_follows 90 = .ok (.irem, 1) := by decide +kernel
theorem dL_follows_91 : decode cL_follows 91 = .ok (.istore 5, 2) := by decide +kernel
theorem dL_follows_93 : decode cL_follows 93 = .ok (.iload_n 1, 1) := by decide +kernel
theorem dL_follows_94 : decode cL_follows 94 = .ok (.bipush 12, 2) := by decide +kernel
theorem dL_follows_96 : decode cL_follows 96 = .ok (.idiv, 1) := by decide +kernel
theorem dL_follows_97 : decode cL_follows 97 = .ok (.aload_n 0, 1) := by decide +kernel
theorem dL_follows_98 : decode cL_follows 98 = .ok (.iconst 0, 1) := by decide +kernel
theorem dL_follows_99 : decode cL_follows 99 = .ok (.invokestatic 100, 3) := by decide +kernel
theorem dL_follows_102 : decode cL_follows 102 = .ok (.l2i, 1) := by decide +kernel
theorem dL_follows_103 : decode cL_follows 103 = .ok (.irem, 1) := by decide +kernel
theorem dL_follows_104 : decode cL_follows 104 = .ok (.istore 6, 2) := by decide +kernel
theorem dL_follows_106 : decode cL_follows 106 = .ok (.iconst 1, 1) := by decide +kernel
theorem dL_follows_107 : decode cL_follows 107 = .ok (.iload_n 1, 1) := by decide +kernel
theorem dL_follows_108 : decode cL_follows 108 = .ok (.iconst 3, 1) := by decide +kernel
theorem dL_follows_109 : decode cL_follows 109 = .ok (.idiv, 1) := by decide +kernel
theorem dL_follows_110 : decode cL_follows 110 = .ok (.iconst 2, 1) := by decide +kernel
theorem dL_follows_111 : decode cL_follows 111 = .ok (.irem, 1) := by decide +kernel
theorem dL_follows_112 : decode cL_follows 112 = .ok (.iadd, 1) := by decide +kernel
theorem dL_follows_113 : decode cL_follows 113 = .ok (.istore 7, 2) := by decide +kernel
theorem dL_follows_115 : decode cL_follows 115 = .ok (.aload_n 0, 1) := by decide +kernel
theorem dL_follows_116 : decode cL_follows 116 = .ok (.iload 5, 2) := by decide +kernel
theorem dL_follows_118 : decode cL_follows 118 = .ok (.iload 6, 2) := by decide +kernel
theorem dL_follows_120 : decode cL_follows 120 = .ok (.iload 7, 2) := by decide +kernel
theorem dL_follows_122 : decode cL_follows 122 = .ok (.invokestatic 138, 3) := by decide +kernel
theorem dL_follows_125 : decode cL_follows 125 = .ok (.lstore 8, 2) := by decide +kernel
theorem dL_follows_127 : decode cL_follows 127 = .ok (.aload_n 0, 1) := by decide +kernel
theorem dL_follows_128 : decode cL_follows 128 = .ok (.iload 5, 2) := by decide +kernel
theorem dL_follows_130 : decode cL_follows 130 = .ok (.iload 6, 2) := by decide +kernel
theorem dL_follows_132 : decode cL_follows 132 = .ok (.iconst 1, 1) := by decide +kernel
theorem dL_follows_133 : decode cL_follows 133 = .ok (.iload_n 1, 1) := by decide +kernel
theorem dL_follows_134 : decode cL_follows 134 = .ok (.bipush 26, 2) := by decide +kernel
theorem dL_follows_136 : decode cL_follows 136 = .ok (.irem, 1) := by decide +kernel
theorem dL_follows_137 : decode cL_follows 137 = .ok (.invokestatic 134, 3) := by decide +kernel
theorem dL_follows_140 : decode cL_follows 140 = .ok (.lstore 10, 2) := by decide +kernel
theorem dL_follows_142 : decode cL_follows 142 = .ok (.aload_n 0, 1) := by decide +kernel
theorem dL_follows_143 : decode cL_follows 143 = .ok (.iload 5, 2) := by decide +kernel
theorem dL_follows_145 : decode cL_follows 145 = .ok (.iload 6, 2) := by decide +kernel
theorem dL_follows_147 : decode cL_follows 147 = .ok (.iconst 1, 1) := by decide +kernel
theorem dL_follows_148 : decode cL_follows 148 = .ok (.iload_n 1, 1) := by decide +kernel
theorem dL_follows_149 : decode cL_follows 149 = .ok (.bipush 26, 2) := by decide +kernel
theorem dL_follows_151 : decode cL_follows 151 = .ok (.irem, 1) := by decide +kernel
theorem dL_follows_152 : decode cL_follows 152 = .ok (.invokestatic 126, 3) := by decide +kernel
theorem dL_follows_155 : decode cL_follows 155 = .ok (.lload 10, 2) := by decide +kernel
theorem dL_follows_157 : decode cL_follows 157 = .ok (.lcmp, 1) := by decide +kernel
theorem dL_follows_158 : decode cL_follows 158 = .ok (.ifCond .ne 77, 3) := by decide +kernel
theorem dL_follows_161 : decode cL_follows 161 = .ok (.aload_n 0, 1) := by decide +kernel
theorem dL_follows_162 : decode cL_follows 162 = .ok (.invokestatic 177, 3) := by decide +kernel
theorem dL_follows_165 : decode cL_follows 165 = .ok (.lconst 0, 1) := by decide +kernel
theorem dL_follows_166 : decode cL_follows 166 = .ok (.lcmp, 1) := by decide +kernel
theorem dL_follows_167 : decode cL_follows 167 = .ok (.ifCond .lt 68, 3) := by decide +kernel
theorem dL_follows_170 : decode cL_follows 170 = .ok (.lload 8, 2) := by decide +kernel
theorem dL_follows_172 : decode cL_follows 172 = .ok (.ldc2_w 159, 3) := by decide +kernel
theorem dL_follows_175 : decode cL_follows 175 = .ok (.lcmp, 1) := by decide +kernel
theorem dL_follows_176 : decode cL_follows 176 = .ok (.ifCond .ne 19, 3) := by decide +kernel
theorem dL_follows_179 : decode cL_follows 179 = .ok (.aload_n 0, 1) := by decide +kernel
theorem dL_follows_180 : decode cL_follows 180 = .ok (.iload 5, 2) := by decide +kernel
theorem dL_follows_182 : decode cL_follows 182 = .ok (.iload 6, 2) := by decide +kernel
theorem dL_follows_184 : decode cL_follows 184 = .ok (.iload 7, 2) := by decide +kernel
theorem dL_follows_186 : decode cL_follows 186 = .ok (.iconst 0, 1) := by decide +kernel
theorem dL_follows_187 : decode cL_follows 187 = .ok (.invokestatic 134, 3) := by decide +kernel
theorem dL_follows_190 : decode cL_follows 190 = .ok (.lconst 0, 1) := by decide +kernel
theorem dL_follows_191 : decode cL_follows 191 = .ok (.lcmp, 1) := by decide +kernel
theorem dL_follows_192 : decode cL_follows 192 = .ok (.ifCond .le 43, 3) := by decide +kernel
theorem dL_follows_195 : decode cL_follows 195 = .ok (.lload 8, 2) := by decide +kernel
theorem dL_follows_197 : decode cL_follows 197 = .ok (.ldc2_w 159, 3) := by decide +kernel
theorem dL_follows_200 : decode cL_follows 200 = .ok (.lcmp, 1) := by decide +kernel
theorem dL_follows_201 : decode cL_follows 201 = .ok (.ifCond .eq 30, 3) := by decide +kernel
theorem dL_follows_204 : decode cL_follows 204 = .ok (.aload_n 0, 1) := by decide +kernel
theorem dL_follows_205 : decode cL_follows 205 = .ok (.iload 5, 2) := by decide +kernel
theorem dL_follows_207 : decode cL_follows 207 = .ok (.iload 6, 2) := by decide +kernel
theorem dL_follows_209 : decode cL_follows 209 = .ok (.iload 7, 2) := by decide +kernel
theorem dL_follows_211 : decode cL_follows 211 = .ok (.lload 8, 2) := by decide +kernel
theorem dL_follows_213 : decode cL_follows 213 = .ok (.l2i, 1) := by decide +kernel
theorem dL_follows_214 : decode cL_follows 214 = .ok (.invokestatic 126, 3) := by decide +kernel
theorem dL_follows_217 : decode cL_follows 217 = .ok (.lconst 0, 1) := by decide +kernel
theorem dL_follows_218 : decode cL_follows 218 = .ok (.lcmp, 1) := by decide +kernel
theorem dL_follows_219 : decode cL_follows 219 = .ok (.ifCond .ne 16, 3) := by decide +kernel
theorem dL_follows_222 : decode cL_follows 222 = .ok (.aload_n 0, 1) := by decide +kernel
theorem dL_follows_223 : decode cL_follows 223 = .ok (.invokestatic 177, 3) := by decide +kernel
theorem dL_follows_226 : decode cL_follows 226 = .ok (.lconst 0, 1) := by decide +kernel
theorem dL_follows_227 : decode cL_follows 227 = .ok (.lcmp, 1) := by decide +kernel
theorem dL_follows_228 : decode cL_follows 228 = .ok (.ifCond .lt 7, 3) := by decide +kernel
theorem dL_follows_231 : decode cL_follows 231 = .ok (.iconst 1, 1) := by decide +kernel
theorem dL_follows_232 : decode cL_follows 232 = .ok (.goto 4, 3) := by decide +kernel
theorem dL_follows_235 : decode cL_follows 235 = .ok (.iconst 0, 1) := by decide +kernel
theorem dL_follows_236 : decode cL_follows 236 = .ok (.istore 4, 2) := by decide +kernel
theorem dL_follows_238 : decode cL_follows 238 = .ok (.iload_n 1, 1) := by decide +kernel
theorem dL_follows_239 : decode cL_follows 239 = .ok (.iconst 5, 1) := by decide +kernel
theorem dL_follows_240 : decode cL_follows 240 = .ok (.idiv, 1) := by decide +kernel
theorem dL_follows_241 : decode cL_follows 241 = .ok (.iconst 4, 1) := by decide +kernel
theorem dL_follows_242 : decode cL_follows 242 = .ok (.irem, 1) := by decide +kernel
theorem dL_follows_243 : decode cL_follows 243 = .ok (.istore 12, 2) := by decide +kernel
theorem dL_follows_245 : decode cL_follows 245 = .ok (.aload_n 0, 1) := by decide +kernel
theorem dL_follows_246 : decode cL_follows 246 = .ok (.iload 12, 2) := by decide +kernel
theorem dL_follows_248 : decode cL_follows 248 = .ok (.iconst 1, 1) := by decide +kernel
theorem dL_follows_249 : decode cL_follows 249 = .ok (.iload_n 1, 1) := by decide +kernel
theorem dL_follows_250 : decode cL_follows 250 = .ok (.bipush 8, 2) := by decide +kernel
theorem dL_follows_252 : decode cL_follows 252 = .ok (.irem, 1) := by decide +kernel
theorem dL_follows_253 : decode cL_follows 253 = .ok (.iload_n 1, 1) := by decide +kernel
theorem dL_follows_254 : decode cL_follows 254 = .ok (.iconst 2, 1) := by decide +kernel
theorem dL_follows_255 : decode cL_follows 255 = .ok (.irem, 1) := by decide +kernel
theorem dL_follows_256 : decode cL_follows 256 = .ok (.invokestatic 118, 3) := by decide +kernel
theorem dL_follows_259 : decode cL_follows 259 = .ok (.lstore 13, 2) := by decide +kernel
theorem dL_follows_261 : decode cL_follows 261 = .ok (.aload_n 0, 1) := by decide +kernel
theorem dL_follows_262 : decode cL_follows 262 = .ok (.bipush 9, 2) := by decide +kernel
theorem dL_follows_264 : decode cL_follows 264 = .ok (.invokestatic 100, 3) := by decide +kernel
theorem dL_follows_267 : decode cL_follows 267 = .ok (.lstore 15, 2) := by decide +kernel
theorem dL_follows_269 : decode cL_follows 269 = .ok (.iload 4, 2) := by decide +kernel
theorem dL_follows_271 : decode cL_follows 271 = .ok (.ifCond .eq 68, 3) := by decide +kernel
theorem dL_follows_274 : decode cL_follows 274 = .ok (.aload_n 0, 1) := by decide +kernel
theorem dL_follows_275 : decode cL_follows 275 = .ok (.iload 12, 2) := by decide +kernel
theorem dL_follows_277 : decode cL_follows 277 = .ok (.iconst 1, 1) := by decide +kernel
theorem dL_follows_278 : decode cL_follows 278 = .ok (.iload_n 1, 1) := by decide +kernel
theorem dL_follows_279 : decode cL_follows 279 = .ok (.bipush 8, 2) := by decide +kernel
theorem dL_follows_281 : decode cL_follows 281 = .ok (.irem, 1) := by decide +kernel
theorem dL_follows_282 : decode cL_follows 282 = .ok (.invokestatic 128, 3) := by decide +kernel
theorem dL_follows_285 : decode cL_follows 285 = .ok (.lload 13, 2) := by decide +kernel
theorem dL_follows_287 : decode cL_follows 287 = .ok (.lcmp, 1) := by decide +kernel
theorem dL_follows_288 : decode cL_follows 288 = .ok (.ifCond .ne 51, 3) := by decide +kernel
theorem dL_follows_291 : decode cL_follows 291 = .ok (.aload_n 0, 1) := by decide +kernel
theorem dL_follows_292 : decode cL_follows 292 = .ok (.bipush 9, 2) := by decide +kernel
theorem dL_follows_294 : decode cL_follows 294 = .ok (.invokestatic 100, 3) := by decide +kernel
theorem dL_follows_297 : decode cL_follows 297 = .ok (.aload_n 0, 1) := by decide +kernel
theorem dL_follows_298 : decode cL_follows 298 = .ok (.bipush 10, 2) := by decide +kernel
theorem dL_follows_300 : decode cL_follows 300 = .ok (.invokestatic 100, 3) := by decide +kernel
theorem dL_follows_303 : decode cL_follows 303 = .ok (.ladd, 1) := by decide +kernel
theorem dL_follows_304 : decode cL_follows 304 = .ok (.aload_n 0, 1) := by decide +kernel
theorem dL_follows_305 : decode cL_follows 305 = .ok (.bipush 8, 2) := by decide +kernel
theorem dL_follows_307 : decode cL_follows 307 = .ok (.invokestatic 100, 3) := by decide +kernel
theorem dL_follows_310 : decode cL_follows 310 = .ok (.ladd, 1) := by decide +kernel
theorem dL_follows_311 : decode cL_follows 311 = .ok (.lload 15, 2) := by decide +kernel
theorem dL_follows_313 : decode cL_follows 313 = .ok (.lcmp, 1) := by decide +kernel
theorem dL_follows_314 : decode cL_follows 314 = .ok (.ifCond .le 25, 3) := by decide +kernel
theorem dL_follows_317 : decode cL_follows 317 = .ok (.aload_n 0, 1) := by decide +kernel
theorem dL_follows_318 : decode cL_follows 318 = .ok (.invokestatic 177, 3) := by decide +kernel
theorem dL_follows_321 : decode cL_follows 321 = .ok (.lconst 0, 1) := by decide +kernel
theorem dL_follows_322 : decode cL_follows 322 = .ok (.lcmp, 1) := by decide +kernel
theorem dL_follows_323 : decode cL_follows 323 = .ok (.ifCond .lt 16, 3) := by decide +kernel
theorem dL_follows_326 : decode cL_follows 326 = .ok (.aload_n 0, 1) := by decide +kernel
theorem dL_follows_327 : decode cL_follows 327 = .ok (.invokestatic 110, 3) := by decide +kernel
theorem dL_follows_330 : decode cL_follows 330 = .ok (.lload_n 2, 1) := by decide +kernel
theorem dL_follows_331 : decode cL_follows 331 = .ok (.lcmp, 1) := by decide +kernel
theorem dL_follows_332 : decode cL_follows 332 = .ok (.ifCond .ne 7, 3) := by decide +kernel
theorem dL_follows_335 : decode cL_follows 335 = .ok (.iconst 1, 1) := by decide +kernel
theorem dL_follows_336 : decode cL_follows 336 = .ok (.goto 4, 3) := by decide +kernel
theorem dL_follows_339 : decode cL_follows 339 = .ok (.iconst 0, 1) := by decide +kernel
theorem dL_follows_340 : decode cL_follows 340 = .ok (.istore 4, 2) := by decide +kernel
theorem dL_follows_342 : decode cL_follows 342 = .ok (.aload_n 0, 1) := by decide +kernel
theorem dL_follows_343 : decode cL_follows 343 = .ok (.iconst 1, 1) := by decide +kernel
theorem dL_follows_344 : decode cL_follows 344 = .ok (.invokestatic 100, 3) := by decide +kernel
theorem dL_follows_347 : decode cL_follows 347 = .ok (.lconst 0, 1) := by decide +kernel
theorem dL_follows_348 : decode cL_follows 348 = .ok (.lcmp, 1) := by decide +kernel
theorem dL_follows_349 : decode cL_follows 349 = .ok (.ifCond .le 128, 3) := by decide +kernel
theorem dL_follows_352 : decode cL_follows 352 = .ok (.aload_n 0, 1) := by decide +kernel
theorem dL_follows_353 : decode cL_follows 353 = .ok (.bipush 7, 2) := by decide +kernel
theorem dL_follows_355 : decode cL_follows 355 = .ok (.invokestatic 100, 3) := by decide +kernel
theorem dL_follows_358 : decode cL_follows 358 = .ok (.ldc2_w 175, 3) := by decide +kernel
theorem dL_follows_361 : decode cL_follows 361 = .ok (.lcmp, 1) := by decide +kernel
theorem dL_follows_362 : decode cL_follows 362 = .ok (.ifCond .ge 115, 3) := by decide +kernel
theorem dL_follows_365 : decode cL_follows 365 = .ok (.iload 4, 2) := by decide +kernel
theorem dL_follows_367 : decode cL_follows 367 = .ok (.ifCond .eq 110, 3) := by decide +kernel
theorem dL_follows_370 : decode cL_follows 370 = .ok (.iload_n 1, 1) := by decide +kernel
theorem dL_follows_371 : decode cL_follows 371 = .ok (.aload_n 0, 1) := by decide +kernel
theorem dL_follows_372 : decode cL_follows 372 = .ok (.iconst 1, 1) := by decide +kernel
theorem dL_follows_373 : decode cL_follows 373 = .ok (.invokestatic 100, 3) := by decide +kernel
theorem dL_follows_376 : decode cL_follows 376 = .ok (.l2i, 1) := by decide +kernel
theorem dL_follows_377 : decode cL_follows 377 = .ok (.irem, 1) := by decide +kernel
theorem dL_follows_378 : decode cL_follows 378 = .ok (.istore 5, 2) := by decide +kernel
theorem dL_follows_380 : decode cL_follows 380 = .ok (.aload_n 0, 1) := by decide +kernel
theorem dL_follows_381 : decode cL_follows 381 = .ok (.iload 5, 2) := by decide +kernel
theorem dL_follows_383 : decode cL_follows 383 = .ok (.invokestatic 136, 3) := by decide +kernel
theorem dL_follows_386 : decode cL_follows 386 = .ok (.l2i, 1) := by decide +kernel
theorem dL_follows_387 : decode cL_follows 387 = .ok (.istore 6, 2) := by decide +kernel
theorem dL_follows_389 : decode cL_follows 389 = .ok (.iload 6, 2) := by decide +kernel
theorem dL_follows_391 : decode cL_follows 391 = .ok (.ifCond .le 86, 3) := by decide +kernel
theorem dL_follows_394 : decode cL_follows 394 = .ok (.aload_n 0, 1) := by decide +kernel
theorem dL_follows_395 : decode cL_follows 395 = .ok (.iload 6, 2) := by decide +kernel
theorem dL_follows_397 : decode cL_follows 397 = .ok (.invokestatic 130, 3) := by decide +kernel
theorem dL_follows_400 : decode cL_follows 400 = .ok (.lconst 0, 1) := by decide +kernel
theorem dL_follows_401 : decode cL_follows 401 = .ok (.lcmp, 1) := by decide +kernel
theorem dL_follows_402 : decode cL_follows 402 = .ok (.ifCond .le 72, 3) := by decide +kernel
theorem dL_follows_405 : decode cL_follows 405 = .ok (.aload_n 0, 1) := by decide +kernel
theorem dL_follows_406 : decode cL_follows 406 = .ok (.iload 5, 2) := by decide +kernel
theorem dL_follows_408 : decode cL_follows 408 = .ok (.bipush 6, 2) := by decide +kernel
theorem dL_follows_410 : decode cL_follows 410 = .ok (.invokestatic 108, 3) := by decide +kernel
theorem dL_follows_413 : decode cL_follows 413 = .ok (.lconst 1, 1) := by decide +kernel
theorem dL_follows_414 : decode cL_follows 414 = .ok (.lcmp, 1) := by decide +kernel
theorem dL_follows_415 : decode cL_follows 415 = .ok (.ifCond .le 59, 3) := by decide +kernel
theorem dL_follows_418 : decode cL_follows 418 = .ok (.aload_n 0, 1) := by decide +kernel
theorem dL_follows_419 : decode cL_follows 419 = .ok (.invokestatic 177, 3) := by decide +kernel
theorem dL_follows_422 : decode cL_follows 422 = .ok (.lconst 0, 1) := by decide +kernel
theorem dL_follows_423 : decode cL_follows 423 = .ok (.lcmp, 1) := by decide +kernel
theorem dL_follows_424 : decode cL_follows 424 = .ok (.ifCond .lt 50, 3) := by decide +kernel
theorem dL_follows_427 : decode cL_follows 427 = .ok (.iload 6, 2) := by decide +kernel
theorem dL_follows_429 : decode cL_follows 429 = .ok (.iconst 1, 1) := by decide +kernel
theorem dL_follows_430 : decode cL_follows 430 = .ok (.if_icmp .eq 40, 3) := by decide +kernel
theorem dL_follows_433 : decode cL_follows 433 = .ok (.aload_n 0, 1) := by decide +kernel
theorem dL_follows_434 : decode cL_follows 434 = .ok (.iload 6, 2) := by decide +kernel
theorem dL_follows_436 : decode cL_follows 436 = .ok (.iconst 1, 1) := by decide +kernel
theorem dL_follows_437 : decode cL_follows 437 = .ok (.isub, 1) := by decide +kernel
theorem dL_follows_438 : decode cL_follows 438 = .ok (.invokestatic 130, 3) := by decide +kernel
theorem dL_follows_441 : decode cL_follows 441 = .ok (.lconst 0, 1) := by decide +kernel
theorem dL_follows_442 : decode cL_follows 442 = .ok (.lcmp, 1) := by decide +kernel
theorem dL_follows_443 : decode cL_follows 443 = .ok (.ifCond .lt 31, 3) := by decide +kernel
theorem dL_follows_446 : decode cL_follows 446 = .ok (.aload_n 0, 1) := by decide +kernel
theorem dL_follows_447 : decode cL_follows 447 = .ok (.iload 5, 2) := by decide +kernel
theorem dL_follows_449 : decode cL_follows 449 = .ok (.bipush 6, 2) := by decide +kernel
theorem dL_follows_451 : decode cL_follows 451 = .ok (.invokestatic 108, 3) := by decide +kernel
theorem dL_follows_454 : decode cL_follows 454 = .ok (.ldc2_w 155, 3) := by decide +kernel
theorem dL_follows_457 : decode cL_follows 457 = .ok (.lcmp, 1) := by decide +kernel
theorem dL_follows_458 : decode cL_follows 458 = .ok (.ifCond .ge 16, 3) := by decide +kernel
theorem dL_follows_461 : decode cL_follows 461 = .ok (.aload_n 0, 1) := by decide +kernel
theorem dL_follows_462 : decode cL_follows 462 = .ok (.invokestatic 177, 3) := by decide +kernel
theorem dL_follows_465 : decode cL_follows 465 = .ok (.lconst 0, 1) := by decide +kernel
theorem dL_follows_466 : decode cL_follows 466 = .ok (.lcmp, 1) := by decide +kernel
theorem dL_follows_467 : decode cL_follows 467 = .ok (.ifCond .lt 7, 3) := by decide +kernel
theorem dL_follows_470 : decode cL_follows 470 = .ok (.iconst 1, 1) := by decide +kernel
theorem dL_follows_471 : decode cL_follows 471 = .ok (.goto 4, 3) := by decide +kernel
theorem dL_follows_474 : decode cL_follows 474 = .ok (.iconst 0, 1) := by decide +kernel
theorem dL_follows_475 : decode cL_follows 475 = .ok (.istore 4, 2) := by decide +kernel
theorem dL_follows_477 : decode cL_follows 477 = .ok (.iload 4, 2) := by decide +kernel
theorem dL_follows_479 : decode cL_follows 479 = .ok (.ifCond .eq 46, 3) := by decide +kernel
theorem dL_follows_482 : decode cL_follows 482 = .ok (.aload_n 0, 1) := by decide +kernel
theorem dL_follows_483 : decode cL_follows 483 = .ok (.invokestatic 110, 3) := by decide +kernel
theorem dL_follows_486 : decode cL_follows 486 = .ok (.lload_n 2, 1) := by decide +kernel
theorem dL_follows_487 : decode cL_follows 487 = .ok (.lcmp, 1) := by decide +kernel
theorem dL_follows_488 : decode cL_follows 488 = .ok (.ifCond .ne 37, 3) := by decide +kernel
theorem dL_follows_491 : decode cL_follows 491 = .ok (.aload_n 0, 1) := by decide +kernel
theorem dL_follows_492 : decode cL_follows 492 = .ok (.iconst 1, 1) := by decide +kernel
theorem dL_follows_493 : decode cL_follows 493 = .ok (.invokestatic 151, 3) := by decide +kernel
theorem dL_follows_496 : decode cL_follows 496 = .ok (.lconst 0, 1) := by decide +kernel
theorem dL_follows_497 : decode cL_follows 497 = .ok (.lcmp, 1) := by decide +kernel
theorem dL_follows_498 : decode cL_follows 498 = .ok (.ifCond .lt 27, 3) := by decide +kernel
theorem dL_follows_501 : decode cL_follows 501 = .ok (.aload_n 0, 1) := by decide +kernel
theorem dL_follows_502 : decode cL_follows 502 = .ok (.invokestatic 110, 3) := by decide +kernel
theorem dL_follows_505 : decode cL_follows 505 = .ok (.lload_n 2, 1) := by decide +kernel
theorem dL_follows_506 : decode cL_follows 506 = .ok (.lcmp, 1) := by decide +kernel
theorem dL_follows_507 : decode cL_follows 507 = .ok (.ifCond .ne 18, 3) := by decide +kernel
theorem dL_follows_510 : decode cL_follows 510 = .ok (.aload_n 0, 1) := by decide +kernel
theorem dL_follows_511 : decode cL_follows 511 = .ok (.invokestatic 177, 3) := by decide +kernel
theorem dL_follows_514 : decode cL_follows 514 = .ok (.ldc2_w 21, 3) := by decide +kernel
theorem dL_follows_517 : decode cL_follows 517 = .ok (.lcmp, 1) := by decide +kernel
theorem dL_follows_518 : decode cL_follows 518 = .ok (.ifCond .ne 7, 3) := by decide +kernel
theorem dL_follows_521 : decode cL_follows 521 = .ok (.iconst 1, 1) := by decide +kernel
theorem dL_follows_522 : decode cL_follows 522 = .ok (.goto 4, 3) := by decide +kernel
theorem dL_follows_525 : decode cL_follows 525 = .ok (.iconst 0, 1) := by decide +kernel
theorem dL_follows_526 : decode cL_follows 526 = .ok (.ireturn, 1) := by decide +kernel
theorem dL_alike_0 : decode cL_alike 0 = .ok (.aload_n 0, 1) := by decide +kernel
theorem dL_alike_1 : decode cL_alike 1 = .ok (.invokestatic 110, 3) := by decide +kernel
theorem dL_alike_4 : decode cL_alike 4 = .ok (.aload_n 1, 1) := by decide +kernel
theorem dL_alike_5 : decode cL_alike 5 = .ok (.invokestatic 110, 3) := by decide +kernel
theorem dL_alike_8 : decode cL_alike 8 = .ok (.lcmp, 1) := by decide +kernel
theorem dL_alike_9 : decode cL_alike 9 = .ok (.ifCond .ne 141, 3) := by decide +kernel
theorem dL_alike_12 : decode cL_alike 12 = .ok (.aload_n 0, 1) := by decide +kernel
theorem dL_alike_13 : decode cL_alike 13 = .ok (.invokevirtual 179, 3) := by decide +kernel
theorem dL_alike_16 : decode cL_alike 16 = .ok (.aload_n 1, 1) := by decide +kernel
theorem dL_alike_17 : decode cL_alike 17 = .ok (.invokevirtual 179, 3) := by decide +kernel
theorem dL_alike_20 : decode cL_alike 20 = .ok (.if_icmp .ne 130, 3) := by decide +kernel
theorem dL_alike_23 : decode cL_alike 23 = .ok (.aload_n 0, 1) := by decide +kernel
theorem dL_alike_24 : decode cL_alike 24 = .ok (.iload_n 2, 1) := by decide +kernel
theorem dL_alike_25 : decode cL_alike 25 = .ok (.iconst 5, 1) := by decide +kernel
theorem dL_alike_26 : decode cL_alike 26 = .ok (.irem, 1) := by decide +kernel
theorem dL_alike_27 : decode cL_alike 27 = .ok (.invokestatic 116, 3) := by decide +kernel
theorem dL_alike_30 : decode cL_alike 30 = .ok (.aload_n 1, 1) := by decide +kernel
theorem dL_alike_31 : decode cL_alike 31 = .ok (.iload_n 2, 1) := by decide +kernel
theorem dL_alike_32 : decode cL_alike 32 = .ok (.iconst 5, 1) := by decide +kernel
theorem dL_alike_33 : decode cL_alike 33 = .ok (.irem, 1) := by decide +kernel
theorem dL_alike_34 : decode cL_alike 34 = .ok (.invokestatic 116, 3) := by decide +kernel
theorem dL_alike_37 : decode cL_alike 37 = .ok (.lcmp, 1) := by decide +kernel
theorem dL_alike_38 : decode cL_alike 38 = .ok (.ifCond .ne 112, 3) := by decide +kernel
theorem dL_alike_41 : decode cL_alike 41 = .ok (.aload_n 0, 1) := by decide +kernel
theorem dL_alike_42 : decode cL_alike 42 = .ok (.invokevirtual 169, 3) := by decide +kernel
theorem dL_alike_45 : decode cL_alike 45 = .ok (.aload_n 1, 1) := by decide +kernel
theorem dL_alike_46 : decode cL_alike 46 = .ok (.invokevirtual 169, 3) := by decide +kernel
theorem dL_alike_49 : decode cL_alike 49 = .ok (.if_icmp .ne 101, 3) := by decide +kernel
theorem dL_alike_52 : decode cL_alike 52 = .ok (.aload_n 0, 1) := by decide +kernel
theorem dL_alike_53 : decode cL_alike 53 = .ok (.iload_n 2, 1) := by decide +kernel
theorem dL_alike_54 : decode cL_alike 54 = .ok (.bipush 12, 2) := by decide +kernel
theorem dL_alike_56 : decode cL_alike 56 = .ok (.irem, 1) := by decide +kernel
theorem dL_alike_57 : decode cL_alike 57 = .ok (.iload_n 2, 1) := by decide +kernel
theorem dL_alike_58 : decode cL_alike 58 = .ok (.bipush 12, 2) := by decide +kernel
theorem dL_alike_60 : decode cL_alike 60 = .ok (.idiv, 1) := by decide +kernel
theorem dL_alike_61 : decode cL_alike 61 = .ok (.bipush 12, 2) := by decide +kernel
theorem dL_alike_63 : decode cL_alike 63 = .ok (.irem, 1) := by decide +kernel
theorem dL_alike_64 : decode cL_alike 64 = .ok (.iconst 1, 1) := by decide +kernel
theorem dL_alike_65 : decode cL_alike 65 = .ok (.invokestatic 138, 3) := by decide +kernel
theorem dL_alike_68 : decode cL_alike 68 = .ok (.aload_n 1, 1) := by decide +kernel
theorem dL_alike_69 : decode cL_alike 69 = .ok (.iload_n 2, 1) := by decide +kernel
theorem dL_alike_70 : decode cL_alike 70 = .ok (.bipush 12, 2) := by decide +kernel
theorem dL_alike_72 : decode cL_alike 72 = .ok (.irem, 1) := by decide +kernel
theorem dL_alike_73 : decode cL_alike 73 = .ok (.iload_n 2, 1) := by decide +kernel
theorem dL_alike_74 : decode cL_alike 74 = .ok (.bipush 12, 2) := by decide +kernel
theorem dL_alike_76 : decode cL_alike 76 = .ok (.idiv, 1) := by decide +kernel
theorem dL_alike_77 : decode cL_alike 77 = .ok (.bipush 12, 2) := by decide +kernel
theorem dL_alike_79 : decode cL_alike 79 = .ok (.irem, 1) := by decide +kernel
theorem dL_alike_80 : decode cL_alike 80 = .ok (.iconst 1, 1) := by decide +kernel
theorem dL_alike_81 : decode cL_alike 81 = .ok (.invokestatic 138, 3) := by decide +kernel
theorem dL_alike_84 : decode cL_alike 84 = .ok (.lcmp, 1) := by decide +kernel
theorem dL_alike_85 : decode cL_alike 85 = .ok (.ifCond .ne 65, 3) := by decide +kernel
theorem dL_alike_88 : decode cL_alike 88 = .ok (.aload_n 0, 1) := by decide +kernel
theorem dL_alike_89 : decode cL_alike 89 = .ok (.iload_n 2, 1) := by decide +kernel
theorem dL_alike_90 : decode cL_alike 90 = .ok (.i2l, 1) := by decide +kernel
theorem dL_alike_91 : decode cL_alike 91 = .ok (.iconst 5, 1) := by decide +kernel
theorem dL_alike_92 : decode cL_alike 92 = .ok (.invokestatic 146, 3) := by decide +kernel
theorem dL_alike_95 : decode cL_alike 95 = .ok (.aload_n 1, 1) := by decide +kernel
theorem dL_alike_96 : decode cL_alike 96 = .ok (.iload_n 2, 1) := by decide +kernel
theorem dL_alike_97 : decode cL_alike 97 = .ok (.i2l, 1) := by decide +kernel
theorem dL_alike_98 : decode cL_alike 98 = .ok (.iconst 5, 1) := by decide +kernel
theorem dL_alike_99 : decode cL_alike 99 = .ok (.invokestatic 146, 3) := by decide +kernel
theorem dL_alike_102 : decode cL_alike 102 = .ok (.lcmp, 1) := by decide +kernel
theorem dL_alike_103 : decode cL_alike 103 = .ok (.ifCond .ne 47, 3) := by decide +kernel
theorem dL_alike_106 : decode cL_alike 106 = .ok (.aload_n 0, 1) := by decide +kernel
theorem dL_alike_107 : decode cL_alike 107 = .ok (.iconst 2, 1) := by decide +kernel
theorem dL_alike_108 : decode cL_alike 108 = .ok (.ldc2_w 182, 3) := by decide +kernel
theorem dL_alike_111 : decode cL_alike 111 = .ok (.ldc2_w 184, 3) := by decide +kernel
theorem dL_alike_114 : decode cL_alike 114 = .ok (.iload_n 2, 1) := by decide +kernel
theorem dL_alike_115 : decode cL_alike 115 = .ok (.bipush 9, 2) := by decide +kernel
theorem dL_alike_117 : decode cL_alike 117 = .ok (.irem, 1) := by decide +kernel
theorem dL_alike_118 : decode cL_alike 118 = .ok (.i2l, 1) := by decide +kernel
theorem dL_alike_119 : decode cL_alike 119 = .ok (.lmul, 1) := by decide +kernel
theorem dL_alike_120 : decode cL_alike 120 = .ok (.ladd, 1) := by decide +kernel
theorem dL_alike_121 : decode cL_alike 121 = .ok (.invokestatic 140, 3) := by decide +kernel
theorem dL_alike_124 : decode cL_alike 124 = .ok (.aload_n 1, 1) := by decide +kernel
theorem dL_alike_125 : decode cL_alike 125 = .ok (.iconst 2, 1) := by decide +kernel
theorem dL_alike_126 : decode cL_alike 126 = .ok (.ldc2_w 182, 3) := by decide +kernel
theorem dL_alike_129 : decode cL_alike 129 = .ok (.ldc2_w 184, 3) := by decide +kernel
theorem dL_alike_132 : decode cL_alike 132 = .ok (.iload_n 2, 1) := by decide +kernel
theorem dL_alike_133 : decode cL_alike 133 = .ok (.bipush 9, 2) := by decide +kernel
theorem dL_alike_135 : decode cL_alike 135 = .ok (.irem, 1) := by decide +kernel
theorem dL_alike_136 : decode cL_alike 136 = .ok (.i2l, 1) := by decide +kernel
theorem dL_alike_137 : decode cL_alike 137 = .ok (.lmul, 1) := by decide +kernel
theorem dL_alike_138 : decode cL_alike 138 = .ok (.ladd, 1) := by decide +kernel
theorem dL_alike_139 : decode cL_alike 139 = .ok (.invokestatic 140, 3) := by decide +kernel
theorem dL_alike_142 : decode cL_alike 142 = .ok (.lcmp, 1) := by decide +kernel
theorem dL_alike_143 : decode cL_alike 143 = .ok (.ifCond .ne 7, 3) := by decide +kernel
theorem dL_alike_146 : decode cL_alike 146 = .ok (.iconst 1, 1) := by decide +kernel
theorem dL_alike_147 : decode cL_alike 147 = .ok (.goto 4, 3) := by decide +kernel
theorem dL_alike_150 : decode cL_alike 150 = .ok (.iconst 0, 1) := by decide +kernel
theorem dL_alike_151 : decode cL_alike 151 = .ok (.ireturn, 1) := by decide +kernel
theorem dL_says_0 : decode cL_says 0 = .ok (.aload_n 0, 1) := by decide +kernel
theorem dL_says_1 : decode cL_says 1 = .ok (.iload_n 1, 1) := by decide +kernel
theorem dL_says_2 : decode cL_says 2 = .ok (.invokestatic 153, 3) := by decide +kernel
theorem dL_says_5 : decode cL_says 5 = .ok (.lconst 0, 1) := by decide +kernel
theorem dL_says_6 : decode cL_says 6 = .ok (.lcmp, 1) := by decide +kernel
theorem dL_says_7 : decode cL_says 7 = .ok (.ifCond .le 38, 3) := by decide +kernel
theorem dL_says_10 : decode cL_says 10 = .ok (.aload_n 0, 1) := by decide +kernel
theorem dL_says_11 : decode cL_says 11 = .ok (.iload_n 2, 1) := by decide +kernel
theorem dL_says_12 : decode cL_says 12 = .ok (.invokestatic 153, 3) := by decide +kernel
theorem dL_says_15 : decode cL_says 15 = .ok (.lconst 0, 1) := by decide +kernel
theorem dL_says_16 : decode cL_says 16 = .ok (.lcmp, 1) := by decide +kernel
theorem dL_says_17 : decode cL_says 17 = .ok (.ifCond .le 28, 3) := by decide +kernel
theorem dL_says_20 : decode cL_says 20 = .ok (.aload_n 0, 1) := by decide +kernel
theorem dL_says_21 : decode cL_says 21 = .ok (.iload_n 3, 1) := by decide +kernel
theorem dL_says_22 : decode cL_says 22 = .ok (.invokestatic 153, 3) := by decide +kernel
theorem dL_says_25 : decode cL_says 25 = .ok (.lconst 0, 1) := by decide +kernel
theorem dL_says_26 : decode cL_says 26 = .ok (.lcmp, 1) := by decide +kernel
theorem dL_says_27 : decode cL_says 27 = .ok (.ifCond .le 18, 3) := by decide +kernel
theorem dL_says_30 : decode cL_says 30 = .ok (.aload_n 0, 1) := by decide +kernel
theorem dL_says_31 : decode cL_says 31 = .ok (.iload 4, 2) := by decide +kernel
theorem dL_says_33 : decode cL_says 33 = .ok (.invokestatic 153, 3) := by decide +kernel
theorem dL_says_36 : decode cL_says 36 = .ok (.lconst 0, 1) := by decide +kernel
theorem dL_says_37 : decode cL_says 37 = .ok (.lcmp, 1) := by decide +kernel
theorem dL_says_38 : decode cL_says 38 = .ok (.ifCond .le 7, 3) := by decide +kernel
theorem dL_says_41 : decode cL_says 41 = .ok (.iconst 1, 1) := by decide +kernel
theorem dL_says_42 : decode cL_says 42 = .ok (.goto 4, 3) := by decide +kernel
theorem dL_says_45 : decode cL_says 45 = .ok (.iconst 0, 1) := by decide +kernel
theorem dL_says_46 : decode cL_says 46 = .ok (.ireturn, 1) := by decide +kernel
theorem dL_told_0 : decode cL_told 0 = .ok (.aload_n 0, 1) := by decide +kernel
theorem dL_told_1 : decode cL_told 1 = .ok (.invokevirtual 186, 3) := by decide +kernel
theorem dL_told_4 : decode cL_told 4 = .ok (.ifCond .lt 18, 3) := by decide +kernel
theorem dL_told_7 : decode cL_told 7 = .ok (.aload_n 0, 1) := by decide +kernel
theorem dL_told_8 : decode cL_told 8 = .ok (.bipush 82, 2) := by decide +kernel
theorem dL_told_10 : decode cL_told 10 = .ok (.invokestatic 153, 3) := by decide +kernel
theorem dL_told_13 : decode cL_told 13 = .ok (.lconst 0, 1) := by decide +kernel
theorem dL_told_14 : decode cL_told 14 = .ok (.lcmp, 1) := by decide +kernel
theorem dL_told_15 : decode cL_told 15 = .ok (.ifCond .le 7, 3) := by decide +kernel
theorem dL_told_18 : decode cL_told 18 = .ok (.iconst 1, 1) := by decide +kernel
theorem dL_told_19 : decode cL_told 19 = .ok (.goto 4, 3) := by decide +kernel
theorem dL_told_22 : decode cL_told 22 = .ok (.iconst 0, 1) := by decide +kernel
theorem dL_told_23 : decode cL_told 23 = .ok (.istore_n 2, 1) := by decide +kernel
theorem dL_told_24 : decode cL_told 24 = .ok (.iconst 0, 1) := by decide +kernel
theorem dL_told_25 : decode cL_told 25 = .ok (.istore_n 3, 1) := by decide +kernel
theorem dL_told_26 : decode cL_told 26 = .ok (.iload_n 3, 1) := by decide +kernel
theorem dL_told_27 : decode cL_told 27 = .ok (.iconst 4, 1) := by decide +kernel
theorem dL_told_28 : decode cL_told 28 = .ok (.if_icmp .ge 75, 3) := by decide +kernel
theorem dL_told_31 : decode cL_told 31 = .ok (.iload_n 2, 1) := by decide +kernel
theorem dL_told_32 : decode cL_told 32 = .ok (.ifCond .eq 71, 3) := by decide +kernel
theorem dL_told_35 : decode cL_told 35 = .ok (.iload_n 1, 1) := by decide +kernel
theorem dL_told_36 : decode cL_told 36 = .ok (.iload_n 3, 1) := by decide +kernel
theorem dL_told_37 : decode cL_told 37 = .ok (.ishr, 1) := by decide +kernel
theorem dL_told_38 : decode cL_told 38 = .ok (.istore 4, 2) := by decide +kernel
theorem dL_told_40 : decode cL_told 40 = .ok (.aload_n 0, 1) := by decide +kernel
theorem dL_told_41 : decode cL_told 41 = .ok (.bipush 112, 2) := by decide +kernel
theorem dL_told_43 : decode cL_told 43 = .ok (.bipush 48, 2) := by decide +kernel
theorem dL_told_45 : decode cL_told 45 = .ok (.iload 4, 2) := by decide +kernel
theorem dL_told_47 : decode cL_told 47 = .ok (.iconst 3, 1) := by decide +kernel
theorem dL_told_48 : decode cL_told 48 = .ok (.irem, 1) := by decide +kernel
theorem dL_told_49 : decode cL_told 49 = .ok (.iadd, 1) := by decide +kernel
theorem dL_told_50 : decode cL_told 50 = .ok (.bipush 48, 2) := by decide +kernel
theorem dL_told_52 : decode cL_told 52 = .ok (.iload 4, 2) := by decide +kernel
theorem dL_told_54 : decode cL_told 54 = .ok (.bipush 10, 2) := by decide +kernel
theorem dL_told_56 : decode cL_told 56 = .ok (.irem, 1) := by decide +kernel
theorem dL_told_57 : decode cL_told 57 = .ok (.iadd, 1) := by decide +kernel
theorem dL_told_58 : decode cL_told 58 = .ok (.bipush 48, 2) := by decide +kernel
theorem dL_told_60 : decode cL_told 60 = .ok (.iload 4, 2) := by decide +kernel
theorem dL_told_62 : decode cL_told 62 = .ok (.iconst 3, 1) := by decide +kernel
theorem dL_told_63 : decode cL_told 63 = .ok (.idiv, 1) := by decide +kernel
theorem dL_told_64 : decode cL_told 64 = .ok (.iconst 2, 1) := by decide +kernel
theorem dL_told_65 : decode cL_told 65 = .ok (.irem, 1) := by decide +kernel
theorem dL_told_66 : decode cL_told 66 = .ok (.iadd, 1) := by decide +kernel
theorem dL_told_67 : decode cL_told 67 = .ok (.invokestatic 189, 3) := by decide +kernel
theorem dL_told_70 : decode cL_told 70 = .ok (.ifCond .eq 25, 3) := by decide +kernel
theorem dL_told_73 : decode cL_told 73 = .ok (.aload_n 0, 1) := by decide +kernel
theorem dL_told_74 : decode cL_told 74 = .ok (.bipush 48, 2) := by decide +kernel
theorem dL_told_76 : decode cL_told 76 = .ok (.iload 4, 2) := by decide +kernel
theorem dL_told_78 : decode cL_told 78 = .ok (.iconst 5, 1) := by decide +kernel
theorem dL_told_79 : decode cL_told 79 = .ok (.idiv, 1) := by decide +kernel
theorem dL_told_80 : decode cL_told 80 = .ok (.iconst 2, 1) := by decide +kernel
theorem dL_told_81 : decode cL_told 81 = .ok (.irem, 1) := by decide +kernel
theorem dL_told_82 : decode cL_told 82 = .ok (.iadd, 1) := by decide +kernel
theorem dL_told_83 : decode cL_told 83 = .ok (.invokestatic 153, 3) := by decide +kernel
theorem dL_told_86 : decode cL_told 86 = .ok (.lconst 0, 1) := by decide +kernel
theorem dL_told_87 : decode cL_told 87 = .ok (.lcmp, 1) := by decide +kernel
theorem dL_told_88 : decode cL_told 88 = .ok (.ifCond .le 7, 3) := by decide +kernel
theorem dL_told_91 : decode cL_told 91 = .ok (.iconst 1, 1) := by decide +kernel
theorem dL_told_92 : decode cL_told 92 = .ok (.goto 4, 3) := by decide +kernel
theorem dL_told_95 : decode cL_told 95 = .ok (.iconst 0, 1) := by decide +kernel
theorem dL_told_96 : decode cL_told 96 = .ok (.istore_n 2, 1) := by decide +kernel
theorem dL_told_97 : decode cL_told 97 = .ok (.iinc 3 1, 3) := by decide +kernel
theorem dL_told_100 : decode cL_told 100 = .ok (.goto (-74), 3) := by decide +kernel
theorem dL_told_103 : decode cL_told 103 = .ok (.iconst 0, 1) := by decide +kernel
theorem dL_told_104 : decode cL_told 104 = .ok (.istore_n 3, 1) := by decide +kernel
theorem dL_told_105 : decode cL_told 105 = .ok (.iload_n 3, 1) := by decide +kernel
theorem dL_told_106 : decode cL_told 106 = .ok (.iconst 1, 1) := by decide +kernel
theorem dL_told_107 : decode cL_told 107 = .ok (.iload_n 1, 1) := by decide +kernel
theorem dL_told_108 : decode cL_told 108 = .ok (.iconst 4, 1) := by decide +kernel
theorem dL_told_109 : decode cL_told 109 = .ok (.irem, 1) := by decide +kernel
theorem dL_told_110 : decode cL_told 110 = .ok (.iadd, 1) := by decide +kernel
theorem dL_told_111 : decode cL_told 111 = .ok (.if_icmp .ge 110, 3) := by decide +kernel
theorem dL_told_114 : decode cL_told 114 = .ok (.iload_n 2, 1) := by decide +kernel
theorem dL_told_115 : decode cL_told 115 = .ok (.ifCond .eq 106, 3) := by decide +kernel
theorem dL_told_118 : decode cL_told 118 = .ok (.iload_n 1, 1) := by decide +kernel
theorem dL_told_119 : decode cL_told 119 = .ok (.iload_n 3, 1) := by decide +kernel
theorem dL_told_120 : decode cL_told 120 = .ok (.ishr, 1) := by decide +kernel
theorem dL_told_121 : decode cL_told 121 = .ok (.istore 4, 2) := by decide +kernel
theorem dL_told_123 : decode cL_told 123 = .ok (.aload_n 0, 1) := by decide +kernel
theorem dL_told_124 : decode cL_told 124 = .ok (.bipush 103, 2) := by decide +kernel
theorem dL_told_126 : decode cL_told 126 = .ok (.bipush 48, 2) := by decide +kernel
theorem dL_told_128 : decode cL_told 128 = .ok (.bipush 48, 2) := by decide +kernel
theorem dL_told_130 : decode cL_told 130 = .ok (.iload 4, 2) := by decide +kernel
theorem dL_told_132 : decode cL_told 132 = .ok (.iconst 4, 1) := by decide +kernel
theorem dL_told_133 : decode cL_told 133 = .ok (.irem, 1) := by decide +kernel
theorem dL_told_134 : decode cL_told 134 = .ok (.iadd, 1) := by decide +kernel
theorem dL_told_135 : decode cL_told 135 = .ok (.bipush 48, 2) := by decide +kernel
theorem dL_told_137 : decode cL_told 137 = .ok (.invokestatic 189, 3) := by decide +kernel
theorem dL_told_140 : decode cL_told 140 = .ok (.ifCond .eq 73, 3) := by decide +kernel
theorem dL_told_143 : decode cL_told 143 = .ok (.aload_n 0, 1) := by decide +kernel
theorem dL_told_144 : decode cL_told 144 = .ok (.bipush 48, 2) := by decide +kernel
theorem dL_told_146 : decode cL_told 146 = .ok (.iload 4, 2) := by decide +kernel
theorem dL_told_148 : decode cL_told 148 = .ok (.iconst 4, 1) := by decide +kernel
theorem dL_told_149 : decode cL_told 149 = .ok (.idiv, 1) := by decide +kernel
theorem dL_told_150 : decode cL_told 150 = .ok (.iconst 4, 1) := by decide +kernel
theorem dL_told_151 : decode cL_told 151 = .ok (.irem, 1) := by decide +kernel
theorem dL_told_152 : decode cL_told 152 = .ok (.iadd, 1) := by decide +kernel
theorem dL_told_153 : decode cL_told 153 = .ok (.bipush 65, 2) := by decide +kernel
theorem dL_told_155 : decode cL_told 155 = .ok (.iload 4, 2) := by decide +kernel
theorem dL_told_157 : decode cL_told 157 = .ok (.iconst 3, 1) := by decide +kernel
theorem dL_told_158 : decode cL_told 158 = .ok (.irem, 1) := by decide +kernel
theorem dL_told_159 : decode cL_told 159 = .ok (.iadd, 1) := by decide +kernel
theorem dL_told_160 : decode cL_told 160 = .ok (.bipush 46, 2) := by decide +kernel
theorem dL_told_162 : decode cL_told 162 = .ok (.bipush 99, 2) := by decide +kernel
theorem dL_told_164 : decode cL_told 164 = .ok (.invokestatic 189, 3) := by decide +kernel
theorem dL_told_167 : decode cL_told 167 = .ok (.ifCond .eq 46, 3) := by decide +kernel
theorem dL_told_170 : decode cL_told 170 = .ok (.aload_n 0, 1) := by decide +kernel
theorem dL_told_171 : decode cL_told 171 = .ok (.bipush 48, 2) := by decide +kernel
theorem dL_told_173 : decode cL_told 173 = .ok (.iload 4, 2) := by decide +kernel
theorem dL_told_175 : decode cL_told 175 = .ok (.bipush 7, 2) := by decide +kernel
theorem dL_told_177 : decode cL_told 177 = .ok (.idiv, 1) := by decide +kernel
theorem dL_told_178 : decode cL_told 178 = .ok (.iconst 2, 1) := by decide +kernel
theorem dL_told_179 : decode cL_told 179 = .ok (.irem, 1) := by decide +kernel
theorem dL_told_180 : decode cL_told 180 = .ok (.iadd, 1) := by decide +kernel
theorem dL_told_181 : decode cL_told 181 = .ok (.bipush 65, 2) := by decide +kernel
theorem dL_told_183 : decode cL_told 183 = .ok (.iload 4, 2) := by decide +kernel
theorem dL_told_185 : decode cL_told 185 = .ok (.iconst 3, 1) := by decide +kernel
theorem dL_told_186 : decode cL_told 186 = .ok (.irem, 1) := by decide +kernel
theorem dL_told_187 : decode cL_told 187 = .ok (.iadd, 1) := by decide +kernel
theorem dL_told_188 : decode cL_told 188 = .ok (.bipush 46, 2) := by decide +kernel
theorem dL_told_190 : decode cL_told 190 = .ok (.bipush 121, 2) := by decide +kernel
theorem dL_told_192 : decode cL_told 192 = .ok (.invokestatic 189, 3) := by decide +kernel
theorem dL_told_195 : decode cL_told 195 = .ok (.ifCond .eq 18, 3) := by decide +kernel
theorem dL_told_198 : decode cL_told 198 = .ok (.aload_n 0, 1) := by decide +kernel
theorem dL_told_199 : decode cL_told 199 = .ok (.bipush 49, 2) := by decide +kernel
theorem dL_told_201 : decode cL_told 201 = .ok (.invokestatic 153, 3) := by decide +kernel
theorem dL_told_204 : decode cL_told 204 = .ok (.lconst 0, 1) := by decide +kernel
theorem dL_told_205 : decode cL_told 205 = .ok (.lcmp, 1) := by decide +kernel
theorem dL_told_206 : decode cL_told 206 = .ok (.ifCond .le 7, 3) := by decide +kernel
theorem dL_told_209 : decode cL_told 209 = .ok (.iconst 1, 1) := by decide +kernel
theorem dL_told_210 : decode cL_told 210 = .ok (.goto 4, 3) := by decide +kernel
theorem dL_told_213 : decode cL_told 213 = .ok (.iconst 0, 1) := by decide +kernel
theorem dL_told_214 : decode cL_told 214 = .ok (.istore_n 2, 1) := by decide +kernel
theorem dL_told_215 : decode cL_told 215 = .ok (.iinc 3 1, 3) := by decide +kernel
theorem dL_told_218 : decode cL_told 218 = .ok (.goto (-113), 3) := by decide +kernel
theorem dL_told_221 : decode cL_told 221 = .ok (.iload_n 2, 1) := by decide +kernel
theorem dL_told_222 : decode cL_told 222 = .ok (.ifCond .eq 95, 3) := by decide +kernel
theorem dL_told_225 : decode cL_told 225 = .ok (.aload_n 0, 1) := by decide +kernel
theorem dL_told_226 : decode cL_told 226 = .ok (.bipush 115, 2) := by decide +kernel
theorem dL_told_228 : decode cL_told 228 = .ok (.bipush 48, 2) := by decide +kernel
theorem dL_told_230 : decode cL_told 230 = .ok (.bipush 49, 2) := by decide +kernel
theorem dL_told_232 : decode cL_told 232 = .ok (.iload_n 1, 1) := by decide +kernel
theorem dL_told_233 : decode cL_told 233 = .ok (.iconst 3, 1) := by decide +kernel
theorem dL_told_234 : decode cL_told 234 = .ok (.irem, 1) := by decide +kernel
theorem dL_told_235 : decode cL_told 235 = .ok (.iadd, 1) := by decide +kernel
theorem dL_told_236 : decode cL_told 236 = .ok (.bipush 98, 2) := by decide +kernel
theorem dL_told_238 : decode cL_told 238 = .ok (.invokestatic 189, 3) := by decide +kernel
theorem dL_told_241 : decode cL_told 241 = .ok (.ifCond .eq 76, 3) := by decide +kernel
theorem dL_told_244 : decode cL_told 244 = .ok (.aload_n 0, 1) := by decide +kernel
theorem dL_told_245 : decode cL_told 245 = .ok (.bipush 48, 2) := by decide +kernel
theorem dL_told_247 : decode cL_told 247 = .ok (.bipush 49, 2) := by decide +kernel
theorem dL_told_249 : decode cL_told 249 = .ok (.bipush 48, 2) := by decide +kernel
theorem dL_told_251 : decode cL_told 251 = .ok (.iload_n 1, 1) := by decide +kernel
theorem dL_told_252 : decode cL_told 252 = .ok (.iconst 4, 1) := by decide +kernel
theorem dL_told_253 : decode cL_told 253 = .ok (.irem, 1) := by decide +kernel
theorem dL_told_254 : decode cL_told 254 = .ok (.iadd, 1) := by decide +kernel
theorem dL_told_255 : decode cL_told 255 = .ok (.bipush 115, 2) := by decide +kernel
theorem dL_told_257 : decode cL_told 257 = .ok (.invokestatic 189, 3) := by decide +kernel
theorem dL_told_260 : decode cL_told 260 = .ok (.ifCond .eq 57, 3) := by decide +kernel
theorem dL_told_263 : decode cL_told 263 = .ok (.aload_n 0, 1) := by decide +kernel
theorem dL_told_264 : decode cL_told 264 = .ok (.bipush 50, 2) := by decide +kernel
theorem dL_told_266 : decode cL_told 266 = .ok (.bipush 48, 2) := by decide +kernel
theorem dL_told_268 : decode cL_told 268 = .ok (.iload_n 1, 1) := by decide +kernel
theorem dL_told_269 : decode cL_told 269 = .ok (.bipush 10, 2) := by decide +kernel
theorem dL_told_271 : decode cL_told 271 = .ok (.irem, 1) := by decide +kernel
theorem dL_told_272 : decode cL_told 272 = .ok (.iadd, 1) := by decide +kernel
theorem dL_told_273 : decode cL_told 273 = .ok (.bipush 99, 2) := by decide +kernel
theorem dL_told_275 : decode cL_told 275 = .ok (.bipush 48, 2) := by decide +kernel
theorem dL_told_277 : decode cL_told 277 = .ok (.invokestatic 189, 3) := by decide +kernel
theorem dL_told_280 : decode cL_told 280 = .ok (.ifCond .eq 37, 3) := by decide +kernel
theorem dL_told_283 : decode cL_told 283 = .ok (.aload_n 0, 1) := by decide +kernel
theorem dL_told_284 : decode cL_told 284 = .ok (.bipush 65, 2) := by decide +kernel
theorem dL_told_286 : decode cL_told 286 = .ok (.invokestatic 153, 3) := by decide +kernel
theorem dL_told_289 : decode cL_told 289 = .ok (.lconst 0, 1) := by decide +kernel
theorem dL_told_290 : decode cL_told 290 = .ok (.lcmp, 1) := by decide +kernel
theorem dL_told_291 : decode cL_told 291 = .ok (.ifCond .le 26, 3) := by decide +kernel
theorem dL_told_294 : decode cL_told 294 = .ok (.aload_n 0, 1) := by decide +kernel
theorem dL_told_295 : decode cL_told 295 = .ok (.bipush 46, 2) := by decide +kernel
theorem dL_told_297 : decode cL_told 297 = .ok (.invokestatic 153, 3) := by decide +kernel
theorem dL_told_300 : decode cL_told 300 = .ok (.lconst 0, 1) := by decide +kernel
theorem dL_told_301 : decode cL_told 301 = .ok (.lcmp, 1) := by decide +kernel
theorem dL_told_302 : decode cL_told 302 = .ok (.ifCond .le 15, 3) := by decide +kernel
theorem dL_told_305 : decode cL_told 305 = .ok (.aload_n 0, 1) := by decide +kernel
theorem dL_told_306 : decode cL_told 306 = .ok (.invokevirtual 179, 3) := by decide +kernel
theorem dL_told_309 : decode cL_told 309 = .ok (.iconst (-1), 1) := by decide +kernel
theorem dL_told_310 : decode cL_told 310 = .ok (.if_icmp .ne 7, 3) := by decide +kernel
theorem dL_told_313 : decode cL_told 313 = .ok (.iconst 1, 1) := by decide +kernel
theorem dL_told_314 : decode cL_told 314 = .ok (.goto 4, 3) := by decide +kernel
theorem dL_told_317 : decode cL_told 317 = .ok (.iconst 0, 1) := by decide +kernel
theorem dL_told_318 : decode cL_told 318 = .ok (.ireturn, 1) := by decide +kernel
theorem dL_act_0 : decode cL_act 0 = .ok (.iload_n 2, 1) := by decide +kernel
theorem dL_act_1 : decode cL_act 1 = .ok (.bipush 32, 2) := by decide +kernel
theorem dL_act_3 : decode cL_act 3 = .ok (.idiv, 1) := by decide +kernel
theorem dL_act_4 : decode cL_act 4 = .ok (.istore_n 3, 1) := by decide +kernel
theorem dL_act_5 : decode cL_act 5 = .ok (.iload_n 1, 1) := by decide +kernel
theorem dL_act_6 : decode cL_act 6 = .ok (.bipush 24, 2) := by decide +kernel
theorem dL_act_8 : decode cL_act 8 = .ok (.irem, 1) := by decide +kernel
theorem dL_act_9 : decode cL_act 9 = .ok (.tableswitch 229 0 20 #[99, 99, 116, 116, 116, 116, 116, 116, 136, 158, 158, 158, 158, 158, 158, 158, 170, 182, 196, 196, 201], 99) := by decide +kernel
theorem dL_act_108 : decode cL_act 108 = .ok (.aload_n 0, 1) := by decide +kernel
theorem dL_act_109 : decode cL_act 109 = .ok (.iload_n 2, 1) := by decide +kernel
theorem dL_act_110 : decode cL_act 110 = .ok (.bipush 30, 2) := by decide +kernel
theorem dL_act_112 : decode cL_act 112 = .ok (.irem, 1) := by decide +kernel
theorem dL_act_113 : decode cL_act 113 = .ok (.iload_n 3, 1) := by decide +kernel
theorem dL_act_114 : decode cL_act 114 = .ok (.iconst 3, 1) := by decide +kernel
theorem dL_act_115 : decode cL_act 115 = .ok (.irem, 1) := by decide +kernel
theorem dL_act_116 : decode cL_act 116 = .ok (.iload_n 3, 1) := by decide +kernel
theorem dL_act_117 : decode cL_act 117 = .ok (.iconst 3, 1) := by decide +kernel
theorem dL_act_118 : decode cL_act 118 = .ok (.idiv, 1) := by decide +kernel
theorem dL_act_119 : decode cL_act 119 = .ok (.iconst 2, 1) := by decide +kernel
theorem dL_act_120 : decode cL_act 120 = .ok (.irem, 1) := by decide +kernel
theorem dL_act_121 : decode cL_act 121 = .ok (.invokestatic 121, 3) := by decide +kernel
theorem dL_act_124 : decode cL_act 124 = .ok (.lreturn, 1) := by decide +kernel
theorem dL_act_125 : decode cL_act 125 = .ok (.aload_n 0, 1) := by decide +kernel
theorem dL_act_126 : decode cL_act 126 = .ok (.iload_n 2, 1) := by decide +kernel
theorem dL_act_127 : decode cL_act 127 = .ok (.bipush 6, 2) := by decide +kernel
theorem dL_act_129 : decode cL_act 129 = .ok (.irem, 1) := by decide +kernel
theorem dL_act_130 : decode cL_act 130 = .ok (.iload_n 3, 1) := by decide +kernel
theorem dL_act_131 : decode cL_act 131 = .ok (.bipush 6, 2) := by decide +kernel
theorem dL_act_133 : decode cL_act 133 = .ok (.irem, 1) := by decide +kernel
theorem dL_act_134 : decode cL_act 134 = .ok (.iconst 1, 1) := by decide +kernel
theorem dL_act_135 : decode cL_act 135 = .ok (.iload_n 3, 1) := by decide +kernel
theorem dL_act_136 : decode cL_act 136 = .ok (.bipush 8, 2) := by decide +kernel
theorem dL_act_138 : decode cL_act 138 = .ok (.idiv, 1) := by decide +kernel
theorem dL_act_139 : decode cL_act 139 = .ok (.iconst 5, 1) := by decide +kernel
theorem dL_act_140 : decode cL_act 140 = .ok (.irem, 1) := by decide +kernel
theorem dL_act_141 : decode cL_act 141 = .ok (.invokestatic 126, 3) := by decide +kernel
theorem dL_act_144 : decode cL_act 144 = .ok (.lreturn, 1) := by decide +kernel
theorem dL_act_145 : decode cL_act 145 = .ok (.aload_n 0, 1) := by decide +kernel
theorem dL_act_146 : decode cL_act 146 = .ok (.iload_n 2, 1) := by decide +kernel
theorem dL_act_147 : decode cL_act 147 = .ok (.bipush 6, 2) := by decide +kernel
theorem dL_act_149 : decode cL_act 149 = .ok (.irem, 1) := by decide +kernel
theorem dL_act_150 : decode cL_act 150 = .ok (.iload_n 3, 1) := by decide +kernel
theorem dL_act_151 : decode cL_act 151 = .ok (.bipush 6, 2) := by decide +kernel
theorem dL_act_153 : decode cL_act 153 = .ok (.irem, 1) := by decide +kernel
theorem dL_act_154 : decode cL_act 154 = .ok (.iconst 2, 1) := by decide +kernel
theorem dL_act_155 : decode cL_act 155 = .ok (.iload_n 3, 1) := by decide +kernel
theorem dL_act_156 : decode cL_act 156 = .ok (.bipush 8, 2) := by decide +kernel
theorem dL_act_158 : decode cL_act 158 = .ok (.idiv, 1) := by decide +kernel
theorem dL_act_159 : decode cL_act 159 = .ok (.sipush 676, 3) := by decide +kernel
theorem dL_act_162 : decode cL_act 162 = .ok (.irem, 1) := by decide +kernel
theorem dL_act_163 : decode cL_act 163 = .ok (.invokestatic 126, 3) := by decide +kernel
theorem dL_act_166 : decode cL_act 166 = .ok (.lreturn, 1) := by decide +kernel
theorem dL_act_167 : decode cL_act 167 = .ok (.aload_n 0, 1) := by decide +kernel
theorem dL_act_168 : decode cL_act 168 = .ok (.iload_n 2, 1) := by decide +kernel
theorem dL_act_169 : decode cL_act 169 = .ok (.iconst 3, 1) := by decide +kernel
theorem dL_act_170 : decode cL_act 170 = .ok (.irem, 1) := by decide +kernel
theorem dL_act_171 : decode cL_act 171 = .ok (.iconst 1, 1) := by decide +kernel
theorem dL_act_172 : decode cL_act 172 = .ok (.iload_n 3, 1) := by decide +kernel
theorem dL_act_173 : decode cL_act 173 = .ok (.iconst 5, 1) := by decide +kernel
theorem dL_act_174 : decode cL_act 174 = .ok (.irem, 1) := by decide +kernel
theorem dL_act_175 : decode cL_act 175 = .ok (.invokestatic 128, 3) := by decide +kernel
theorem dL_act_178 : decode cL_act 178 = .ok (.lreturn, 1) := by decide +kernel
theorem dL_act_179 : decode cL_act 179 = .ok (.aload_n 0, 1) := by decide +kernel
theorem dL_act_180 : decode cL_act 180 = .ok (.iload_n 2, 1) := by decide +kernel
theorem dL_act_181 : decode cL_act 181 = .ok (.bipush 6, 2) := by decide +kernel
theorem dL_act_183 : decode cL_act 183 = .ok (.irem, 1) := by decide +kernel
theorem dL_act_184 : decode cL_act 184 = .ok (.iload_n 3, 1) := by decide +kernel
theorem dL_act_185 : decode cL_act 185 = .ok (.iconst 3, 1) := by decide +kernel
theorem dL_act_186 : decode cL_act 186 = .ok (.irem, 1) := by decide +kernel
theorem dL_act_187 : decode cL_act 187 = .ok (.invokestatic 124, 3) := by decide +kernel
theorem dL_act_190 : decode cL_act 190 = .ok (.lreturn, 1) := by decide +kernel
theorem dL_act_191 : decode cL_act 191 = .ok (.aload_n 0, 1) := by decide +kernel
theorem dL_act_192 : decode cL_act 192 = .ok (.iload_n 2, 1) := by decide +kernel
theorem dL_act_193 : decode cL_act 193 = .ok (.iconst 3, 1) := by decide +kernel
theorem dL_act_194 : decode cL_act 194 = .ok (.irem, 1) := by decide +kernel
theorem dL_act_195 : decode cL_act 195 = .ok (.iconst 1, 1) := by decide +kernel
theorem dL_act_196 : decode cL_act 196 = .ok (.iload_n 3, 1) := by decide +kernel
theorem dL_act_197 : decode cL_act 197 = .ok (.bipush 6, 2) := by decide +kernel
theorem dL_act_199 : decode cL_act 199 = .ok (.irem, 1) := by decide +kernel
theorem dL_act_200 : decode cL_act 200 = .ok (.iadd, 1) := by decide +kernel
theorem dL_act_201 : decode cL_act 201 = .ok (.invokestatic 132, 3) := by decide +kernel
theorem dL_act_204 : decode cL_act 204 = .ok (.lreturn, 1) := by decide +kernel
theorem dL_act_205 : decode cL_act 205 = .ok (.aload_n 0, 1) := by decide +kernel
theorem dL_act_206 : decode cL_act 206 = .ok (.invokestatic 177, 3) := by decide +kernel
theorem dL_act_209 : decode cL_act 209 = .ok (.lreturn, 1) := by decide +kernel
theorem dL_act_210 : decode cL_act 210 = .ok (.iload_n 3, 1) := by decide +kernel
theorem dL_act_211 : decode cL_act 211 = .ok (.iconst 2, 1) := by decide +kernel
theorem dL_act_212 : decode cL_act 212 = .ok (.irem, 1) := by decide +kernel
theorem dL_act_213 : decode cL_act 213 = .ok (.ifCond .ne 15, 3) := by decide +kernel
theorem dL_act_216 : decode cL_act 216 = .ok (.aload_n 0, 1) := by decide +kernel
theorem dL_act_217 : decode cL_act 217 = .ok (.iload_n 3, 1) := by decide +kernel
theorem dL_act_218 : decode cL_act 218 = .ok (.iconst 2, 1) := by decide +kernel
theorem dL_act_219 : decode cL_act 219 = .ok (.idiv, 1) := by decide +kernel
theorem dL_act_220 : decode cL_act 220 = .ok (.iconst 1, 1) := by decide +kernel
theorem dL_act_221 : decode cL_act 221 = .ok (.iand, 1) := by decide +kernel
theorem dL_act_222 : decode cL_act 222 = .ok (.invokestatic 149, 3) := by decide +kernel
theorem dL_act_225 : decode cL_act 225 = .ok (.goto 12, 3) := by decide +kernel
theorem dL_act_228 : decode cL_act 228 = .ok (.aload_n 0, 1) := by decide +kernel
theorem dL_act_229 : decode cL_act 229 = .ok (.iload_n 3, 1) := by decide +kernel
theorem dL_act_230 : decode cL_act 230 = .ok (.iconst 2, 1) := by decide +kernel
theorem dL_act_231 : decode cL_act 231 = .ok (.idiv, 1) := by decide +kernel
theorem dL_act_232 : decode cL_act 232 = .ok (.iconst 1, 1) := by decide +kernel
theorem dL_act_233 : decode cL_act 233 = .ok (.iand, 1) := by decide +kernel
theorem dL_act_234 : decode cL_act 234 = .ok (.invokestatic 151, 3) := by decide +kernel
theorem dL_act_237 : decode cL_act 237 = .ok (.lreturn, 1) := by decide +kernel
theorem dL_act_238 : decode cL_act 238 = .ok (.aload_n 0, 1) := by decide +kernel
theorem dL_act_239 : decode cL_act 239 = .ok (.iconst 1, 1) := by decide +kernel
theorem dL_act_240 : decode cL_act 240 = .ok (.iload_n 2, 1) := by decide +kernel
theorem dL_act_241 : decode cL_act 241 = .ok (.iconst 2, 1) := by decide +kernel
theorem dL_act_242 : decode cL_act 242 = .ok (.irem, 1) := by decide +kernel
theorem dL_act_243 : decode cL_act 243 = .ok (.iadd, 1) := by decide +kernel
theorem dL_act_244 : decode cL_act 244 = .ok (.invokestatic 130, 3) := by decide +kernel
theorem dL_act_247 : decode cL_act 247 = .ok (.lreturn, 1) := by decide +kernel
theorem dL_law_0 : decode cL_law 0 = .ok (.new 10, 3) := by decide +kernel
theorem dL_law_3 : decode cL_law 3 = .ok (.dup, 1) := by decide +kernel
theorem dL_law_4 : decode cL_law 4 = .ok (.invokespecial 193, 3) := by decide +kernel
theorem dL_law_7 : decode cL_law 7 = .ok (.astore_n 1, 1) := by decide +kernel
theorem dL_law_8 : decode cL_law 8 = .ok (.new 10, 3) := by decide +kernel
theorem dL_law_11 : decode cL_law 11 = .ok (.dup, 1) := by decide +kernel
theorem dL_law_12 : decode cL_law 12 = .ok (.invokespecial 193, 3) := by decide +kernel
theorem dL_law_15 : decode cL_law 15 = .ok (.astore_n 2, 1) := by decide +kernel
theorem dL_law_16 : decode cL_law 16 = .ok (.aload_n 1, 1) := by decide +kernel
theorem dL_law_17 : decode cL_law 17 = .ok (.aload_n 2, 1) := by decide +kernel
theorem dL_law_18 : decode cL_law 18 = .ok (.aload_n 0, 1) := by decide +kernel
theorem dL_law_19 : decode cL_law 19 = .ok (.iconst 0, 1) := by decide +kernel
theorem dL_law_20 : decode cL_law 20 = .ok (.invokestatic 194, 3) := by decide +kernel
theorem dL_law_23 : decode cL_law 23 = .ok (.invokestatic 198, 3) := by decide +kernel
theorem dL_law_26 : decode cL_law 26 = .ok (.ifCond .eq 21, 3) := by decide +kernel
theorem dL_law_29 : decode cL_law 29 = .ok (.aload_n 1, 1) := by decide +kernel
theorem dL_law_30 : decode cL_law 30 = .ok (.invokestatic 202, 3) := by decide +kernel
theorem dL_law_33 : decode cL_law 33 = .ok (.ifCond .eq 14, 3) := by decide +kernel
theorem dL_law_36 : decode cL_law 36 = .ok (.aload_n 1, 1) := by decide +kernel
theorem dL_law_37 : decode cL_law 37 = .ok (.invokestatic 206, 3) := by decide +kernel
theorem dL_law_40 : decode cL_law 40 = .ok (.ifCond .eq 7, 3) := by decide +kernel
theorem dL_law_43 : decode cL_law 43 = .ok (.iconst 1, 1) := by decide +kernel
theorem dL_law_44 : decode cL_law 44 = .ok (.goto 4, 3) := by decide +kernel
theorem dL_law_47 : decode cL_law 47 = .ok (.iconst 0, 1) := by decide +kernel
theorem dL_law_48 : decode cL_law 48 = .ok (.istore_n 3, 1) := by decide +kernel
theorem dL_law_49 : decode cL_law 49 = .ok (.iconst 0, 1) := by decide +kernel
theorem dL_law_50 : decode cL_law 50 = .ok (.istore 4, 2) := by decide +kernel
theorem dL_law_52 : decode cL_law 52 = .ok (.iload 4, 2) := by decide +kernel
theorem dL_law_54 : decode cL_law 54 = .ok (.bipush 40, 2) := by decide +kernel
theorem dL_law_56 : decode cL_law 56 = .ok (.if_icmp .ge 215, 3) := by decide +kernel
theorem dL_law_59 : decode cL_law 59 = .ok (.iload_n 3, 1) := by decide +kernel
theorem dL_law_60 : decode cL_law 60 = .ok (.ifCond .eq 211, 3) := by decide +kernel
theorem dL_law_63 : decode cL_law 63 = .ok (.aload_n 0, 1) := by decide +kernel
theorem dL_law_64 : decode cL_law 64 = .ok (.iconst 2, 1) := by decide +kernel
theorem dL_law_65 : decode cL_law 65 = .ok (.iload 4, 2) := by decide +kernel
theorem dL_law_67 : decode cL_law 67 = .ok (.imul, 1) := by decide +kernel
theorem dL_law_68 : decode cL_law 68 = .ok (.invokestatic 194, 3) := by decide +kernel
theorem dL_law_71 : decode cL_law 71 = .ok (.istore 5, 2) := by decide +kernel
theorem dL_law_73 : decode cL_law 73 = .ok (.aload_n 0, 1) := by decide +kernel
theorem dL_law_74 : decode cL_law 74 = .ok (.iconst 2, 1) := by decide +kernel
theorem dL_law_75 : decode cL_law 75 = .ok (.iload 4, 2) := by decide +kernel
theorem dL_law_77 : decode cL_law 77 = .ok (.imul, 1) := by decide +kernel
theorem dL_law_78 : decode cL_law 78 = .ok (.iconst 1, 1) := by decide +kernel
theorem dL_law_79 : decode cL_law 79 = .ok (.iadd, 1) := by decide +kernel
theorem dL_law_80 : decode cL_law 80 = .ok (.invokestatic 194, 3) := by decide +kernel
theorem dL_law_83 : decode cL_law 83 = .ok (.istore 6, 2) := by decide +kernel
theorem dL_law_85 : decode cL_law 85 = .ok (.iload 4, 2) := by decide +kernel
theorem dL_law_87 : decode cL_law 87 = .ok (.ifCond .ne 42, 3) := by decide +kernel
theorem dL_law_90 : decode cL_law 90 = .ok (.aload_n 1, 1) := by decide +kernel
theorem dL_law_91 : decode cL_law 91 = .ok (.iload 5, 2) := by decide +kernel
theorem dL_law_93 : decode cL_law 93 = .ok (.invokestatic 209, 3) := by decide +kernel
theorem dL_law_96 : decode cL_law 96 = .ok (.ifCond .eq 28, 3) := by decide +kernel
theorem dL_law_99 : decode cL_law 99 = .ok (.aload_n 2, 1) := by decide +kernel
theorem dL_law_100 : decode cL_law 100 = .ok (.iload 5, 2) := by decide +kernel
theorem dL_law_102 : decode cL_law 102 = .ok (.invokestatic 209, 3) := by decide +kernel
theorem dL_law_105 : decode cL_law 105 = .ok (.ifCond .eq 19, 3) := by decide +kernel
theorem dL_law_108 : decode cL_law 108 = .ok (.aload_n 1, 1) := by decide +kernel
theorem dL_law_109 : decode cL_law 109 = .ok (.invokestatic 213, 3) := by decide +kernel
theorem dL_law_112 : decode cL_law 112 = .ok (.aload_n 2, 1) := by decide +kernel
theorem dL_law_113 : decode cL_law 113 = .ok (.invokestatic 213, 3) := by decide +kernel
theorem dL_law_116 : decode cL_law 116 = .ok (.lcmp, 1) := by decide +kernel
theorem dL_law_117 : decode cL_law 117 = .ok (.ifCond .ne 7, 3) := by decide +kernel
theorem dL_law_120 : decode cL_law 120 = .ok (.iconst 1, 1) := by decide +kernel
theorem dL_law_121 : decode cL_law 121 = .ok (.goto 4, 3) := by decide +kernel
theorem dL_law_124 : decode cL_law 124 = .ok (.iconst 0, 1) := by decide +kernel
theorem dL_law_125 : decode cL_law 125 = .ok (.istore_n 3, 1) := by decide +kernel
theorem dL_law_126 : decode cL_law 126 = .ok (.goto 139, 3) := by decide +kernel
theorem dL_law_129 : decode cL_law 129 = .ok (.aload_n 1, 1) := by decide +kernel
theorem dL_law_130 : decode cL_law 130 = .ok (.iload 5, 2) := by decide +kernel
theorem dL_law_132 : decode cL_law 132 = .ok (.iload 6, 2) := by decide +kernel
theorem dL_law_134 : decode cL_law 134 = .ok (.invokestatic 215, 3) := by decide +kernel
theorem dL_law_137 : decode cL_law 137 = .ok (.aload_n 2, 1) := by decide +kernel
theorem dL_law_138 : decode cL_law 138 = .ok (.iload 5, 2) := by decide +kernel
theorem dL_law_140 : decode cL_law 140 = .ok (.iload 6, 2) := by decide +kernel
theorem dL_law_142 : decode cL_law 142 = .ok (.invokestatic 215, 3) := by decide +kernel
theorem dL_law_145 : decode cL_law 145 = .ok (.lcmp, 1) := by decide +kernel
theorem dL_law_146 : decode cL_law 146 = .ok (.ifCond .ne 7, 3) := by decide +kernel
theorem dL_law_149 : decode cL_law 149 = .ok (.iconst 1, 1) := by decide +kernel
theorem dL_law_150 : decode cL_law 150 = .ok (.goto 4, 3) := by decide +kernel
theorem dL_law_153 : decode cL_law 153 = .ok (.iconst 0, 1) := by decide +kernel
theorem dL_law_154 : decode cL_law 154 = .ok (.istore_n 3, 1) := by decide +kernel
theorem dL_law_155 : decode cL_law 155 = .ok (.iload 4, 2) := by decide +kernel
theorem dL_law_157 : decode cL_law 157 = .ok (.bipush 8, 2) := by decide +kernel
theorem dL_law_159 : decode cL_law 159 = .ok (.irem, 1) := by decide +kernel
theorem dL_law_160 : decode cL_law 160 = .ok (.iconst 3, 1) := by decide +kernel
theorem dL_law_161 : decode cL_law 161 = .ok (.if_icmp .ne 27, 3) := by decide +kernel
theorem dL_law_164 : decode cL_law 164 = .ok (.iload_n 3, 1) := by decide +kernel
theorem dL_law_165 : decode cL_law 165 = .ok (.ifCond .eq 21, 3) := by decide +kernel
theorem dL_law_168 : decode cL_law 168 = .ok (.aload_n 2, 1) := by decide +kernel
theorem dL_law_169 : decode cL_law 169 = .ok (.invokestatic 202, 3) := by decide +kernel
theorem dL_law_172 : decode cL_law 172 = .ok (.ifCond .eq 14, 3) := by decide +kernel
theorem dL_law_175 : decode cL_law 175 = .ok (.aload_n 2, 1) := by decide +kernel
theorem dL_law_176 : decode cL_law 176 = .ok (.invokestatic 206, 3) := by decide +kernel
theorem dL_law_179 : decode cL_law 179 = .ok (.ifCond .eq 7, 3) := by decide +kernel
theorem dL_law_182 : decode cL_law 182 = .ok (.iconst 1, 1) := by decide +kernel
theorem dL_law_183 : decode cL_law 183 = .ok (.goto 4, 3) := by decide +kernel
theorem dL_law_186 : decode cL_law 186 = .ok (.iconst 0, 1) := by decide +kernel
theorem dL_law_187 : decode cL_law 187 = .ok (.istore_n 3, 1) := by decide +kernel
theorem dL_law_188 : decode cL_law 188 = .ok (.iload 4, 2) := by decide +kernel
theorem dL_law_190 : decode cL_law 190 = .ok (.bipush 13, 2) := by decide +kernel
theorem dL_law_192 : decode cL_law 192 = .ok (.irem, 1) := by decide +kernel
theorem dL_law_193 : decode cL_law 193 = .ok (.bipush 12, 2) := by decide +kernel
theorem dL_law_195 : decode cL_law 195 = .ok (.if_icmp .ne 42, 3) := by decide +kernel
theorem dL_law_198 : decode cL_law 198 = .ok (.iload_n 3, 1) := by decide +kernel
theorem dL_law_199 : decode cL_law 199 = .ok (.ifCond .eq 36, 3) := by decide +kernel
theorem dL_law_202 : decode cL_law 202 = .ok (.aload_n 2, 1) := by decide +kernel
theorem dL_law_203 : decode cL_law 203 = .ok (.iload 6, 2) := by decide +kernel
theorem dL_law_205 : decode cL_law 205 = .ok (.invokestatic 218, 3) := by decide +kernel
theorem dL_law_208 : decode cL_law 208 = .ok (.ifCond .eq 27, 3) := by decide +kernel
theorem dL_law_211 : decode cL_law 211 = .ok (.aload_n 1, 1) := by decide +kernel
theorem dL_law_212 : decode cL_law 212 = .ok (.iconst 1, 1) := by decide +kernel
theorem dL_law_213 : decode cL_law 213 = .ok (.invokestatic 149, 3) := by decide +kernel
theorem dL_law_216 : decode cL_law 216 = .ok (.lconst 0, 1) := by decide +kernel
theorem dL_law_217 : decode cL_law 217 = .ok (.lcmp, 1) := by decide +kernel
theorem dL_law_218 : decode cL_law 218 = .ok (.ifCond .lt 17, 3) := by decide +kernel
theorem dL_law_221 : decode cL_law 221 = .ok (.aload_n 1, 1) := by decide +kernel
theorem dL_law_222 : decode cL_law 222 = .ok (.iconst 1, 1) := by decide +kernel
theorem dL_law_223 : decode cL_law 223 = .ok (.invokestatic 151, 3) := by decide +kernel
theorem dL_law_226 : decode cL_law 226 = .ok (.lconst 0, 1) := by decide +kernel
theorem dL_law_227 : decode cL_law 227 = .ok (.lcmp, 1) := by decide +kernel
theorem dL_law_228 : decode cL_law 228 = .ok (.ifCond .lt 7, 3) := by decide +kernel
theorem dL_law_231 : decode cL_law 231 = .ok (.iconst 1, 1) := by decide +kernel
theorem dL_law_232 : decode cL_law 232 = .ok (.goto 4, 3) := by decide +kernel
theorem dL_law_235 : decode cL_law 235 = .ok (.iconst 0, 1) := by decide +kernel
theorem dL_law_236 : decode cL_law 236 = .ok (.istore_n 3, 1) := by decide +kernel
theorem dL_law_237 : decode cL_law 237 = .ok (.iload_n 3, 1) := by decide +kernel
theorem dL_law_238 : decode cL_law 238 = .ok (.ifCond .eq 25, 3) := by decide +kernel
theorem dL_law_241 : decode cL_law 241 = .ok (.iload 4, 2) := by decide +kernel
theorem dL_law_243 : decode cL_law 243 = .ok (.bipush 10, 2) := by decide +kernel
theorem dL_law_245 : decode cL_law 245 = .ok (.irem, 1) := by decide +kernel
theorem dL_law_246 : decode cL_law 246 = .ok (.ifCond .gt 13, 3) := by decide +kernel
theorem dL_law_249 : decode cL_law 249 = .ok (.aload_n 1, 1) := by decide +kernel
theorem dL_law_250 : decode cL_law 250 = .ok (.aload_n 2, 1) := by decide +kernel
theorem dL_law_251 : decode cL_law 251 = .ok (.iload 6, 2) := by decide +kernel
theorem dL_law_253 : decode cL_law 253 = .ok (.invokestatic 198, 3) := by decide +kernel
theorem dL_law_256 : decode cL_law 256 = .ok (.ifCond .eq 7, 3) := by decide +kernel
theorem dL_law_259 : decode cL_law 259 = .ok (.iconst 1, 1) := by decide +kernel
theorem dL_law_260 : decode cL_law 260 = .ok (.goto 4, 3) := by decide +kernel
theorem dL_law_263 : decode cL_law 263 = .ok (.iconst 0, 1) := by decide +kernel
theorem dL_law_264 : decode cL_law 264 = .ok (.istore_n 3, 1) := by decide +kernel
theorem dL_law_265 : decode cL_law 265 = .ok (.iinc 4 1, 3) := by decide +kernel
theorem dL_law_268 : decode cL_law 268 = .ok (.goto (-216), 3) := by decide +kernel
theorem dL_law_271 : decode cL_law 271 = .ok (.iload_n 3, 1) := by decide +kernel
theorem dL_law_272 : decode cL_law 272 = .ok (.ifCond .eq 18, 3) := by decide +kernel
theorem dL_law_275 : decode cL_law 275 = .ok (.aload_n 1, 1) := by decide +kernel
theorem dL_law_276 : decode cL_law 276 = .ok (.aload_n 2, 1) := by decide +kernel
theorem dL_law_277 : decode cL_law 277 = .ok (.sipush 10859, 3) := by decide +kernel
theorem dL_law_280 : decode cL_law 280 = .ok (.invokestatic 198, 3) := by decide +kernel
theorem dL_law_283 : decode cL_law 283 = .ok (.ifCond .eq 7, 3) := by decide +kernel
theorem dL_law_286 : decode cL_law 286 = .ok (.iconst 1, 1) := by decide +kernel
theorem dL_law_287 : decode cL_law 287 = .ok (.goto 4, 3) := by decide +kernel
theorem dL_law_290 : decode cL_law 290 = .ok (.iconst 0, 1) := by decide +kernel
theorem dL_law_291 : decode cL_law 291 = .ok (.ireturn, 1) := by decide +kernel
