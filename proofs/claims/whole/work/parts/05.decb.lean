theorem dX10_init_0 : decode cX10_init 0 = .ok (.aload_n 0, 1) := by decide +kernel
theorem dX10_init_1 : decode cX10_init 1 = .ok (.invokespecial 3, 3) := by decide +kernel
theorem dX10_init_4 : decode cX10_init 4 = .ok (.aload_n 0, 1) := by decide +kernel
theorem dX10_init_5 : decode cX10_init 5 = .ok (.new 9, 3) := by decide +kernel
theorem dX10_init_8 : decode cX10_init 8 = .ok (.dup, 1) := by decide +kernel
theorem dX10_init_9 : decode cX10_init 9 = .ok (.invokespecial 11, 3) := by decide +kernel
theorem dX10_init_12 : decode cX10_init 12 = .ok (.putfield 12, 3) := by decide +kernel
theorem dX10_init_15 : decode cX10_init 15 = .ok (.aload_n 0, 1) := by decide +kernel
theorem dX10_init_16 : decode cX10_init 16 = .ok (.new 16, 3) := by decide +kernel
theorem dX10_init_19 : decode cX10_init 19 = .ok (.dup, 1) := by decide +kernel
theorem dX10_init_20 : decode cX10_init 20 = .ok (.invokespecial 18, 3) := by decide +kernel
theorem dX10_init_23 : decode cX10_init 23 = .ok (.putfield 19, 3) := by decide +kernel
theorem dX10_init_26 : decode cX10_init 26 = .ok (.aload_n 0, 1) := by decide +kernel
theorem dX10_init_27 : decode cX10_init 27 = .ok (.new 16, 3) := by decide +kernel
theorem dX10_init_30 : decode cX10_init 30 = .ok (.dup, 1) := by decide +kernel
theorem dX10_init_31 : decode cX10_init 31 = .ok (.invokespecial 18, 3) := by decide +kernel
theorem dX10_init_34 : decode cX10_init 34 = .ok (.putfield 23, 3) := by decide +kernel
theorem dX10_init_37 : decode cX10_init 37 = .ok (.aload_n 0, 1) := by decide +kernel
theorem dX10_init_38 : decode cX10_init 38 = .ok (.new 26, 3) := by decide +kernel
theorem dX10_init_41 : decode cX10_init 41 = .ok (.dup, 1) := by decide +kernel
theorem dX10_init_42 : decode cX10_init 42 = .ok (.invokespecial 28, 3) := by decide +kernel
theorem dX10_init_45 : decode cX10_init 45 = .ok (.putfield 29, 3) := by decide +kernel
theorem dX10_init_48 : decode cX10_init 48 = .ok (.aload_n 0, 1) := by decide +kernel
theorem dX10_init_49 : decode cX10_init 49 = .ok (.new 33, 3) := by decide +kernel
theorem dX10_init_52 : decode cX10_init 52 = .ok (.dup, 1) := by decide +kernel
theorem dX10_init_53 : decode cX10_init 53 = .ok (.invokespecial 35, 3) := by decide +kernel
theorem dX10_init_56 : decode cX10_init 56 = .ok (.putfield 36, 3) := by decide +kernel
theorem dX10_init_59 : decode cX10_init 59 = .ok (.aload_n 0, 1) := by decide +kernel
theorem dX10_init_60 : decode cX10_init 60 = .ok (.new 40, 3) := by decide +kernel
theorem dX10_init_63 : decode cX10_init 63 = .ok (.dup, 1) := by decide +kernel
theorem dX10_init_64 : decode cX10_init 64 = .ok (.invokespecial 42, 3) := by decide +kernel
theorem dX10_init_67 : decode cX10_init 67 = .ok (.putfield 43, 3) := by decide +kernel
theorem dX10_init_70 : decode cX10_init 70 = .ok (.return_, 1) := by decide +kernel
theorem dX10_append_0 : decode cX10_append 0 = .ok (.iload_n 1, 1) := by decide +kernel
theorem dX10_append_1 : decode cX10_append 1 = .ok (.ifCond .lt 10, 3) := by decide +kernel
theorem dX10_append_4 : decode cX10_append 4 = .ok (.iload_n 1, 1) := by decide +kernel
theorem dX10_append_5 : decode cX10_append 5 = .ok (.sipush 255, 3) := by decide +kernel
theorem dX10_append_8 : decode cX10_append 8 = .ok (.if_icmp .le 13, 3) := by decide +kernel
theorem dX10_append_11 : decode cX10_append 11 = .ok (.new 47, 3) := by decide +kernel
theorem dX10_append_14 : decode cX10_append 14 = .ok (.dup, 1) := by decide +kernel
theorem dX10_append_15 : decode cX10_append 15 = .ok (.ldc 49, 2) := by decide +kernel
theorem dX10_append_17 : decode cX10_append 17 = .ok (.invokespecial 51, 3) := by decide +kernel
theorem dX10_append_20 : decode cX10_append 20 = .ok (.athrow, 1) := by decide +kernel
theorem dX10_append_21 : decode cX10_append 21 = .ok (.aload_n 0, 1) := by decide +kernel
theorem dX10_append_22 : decode cX10_append 22 = .ok (.getfield 12, 3) := by decide +kernel
theorem dX10_append_25 : decode cX10_append 25 = .ok (.getfield 54, 3) := by decide +kernel
theorem dX10_append_28 : decode cX10_append 28 = .ok (.bipush 120, 2) := by decide +kernel
theorem dX10_append_30 : decode cX10_append 30 = .ok (.if_icmp .lt 13, 3) := by decide +kernel
theorem dX10_append_33 : decode cX10_append 33 = .ok (.new 58, 3) := by decide +kernel
theorem dX10_append_36 : decode cX10_append 36 = .ok (.dup, 1) := by decide +kernel
theorem dX10_append_37 : decode cX10_append 37 = .ok (.ldc 60, 2) := by decide +kernel
theorem dX10_append_39 : decode cX10_append 39 = .ok (.invokespecial 62, 3) := by decide +kernel
theorem dX10_append_42 : decode cX10_append 42 = .ok (.athrow, 1) := by decide +kernel
theorem dX10_append_43 : decode cX10_append 43 = .ok (.aload_n 0, 1) := by decide +kernel
theorem dX10_append_44 : decode cX10_append 44 = .ok (.getfield 12, 3) := by decide +kernel
theorem dX10_append_47 : decode cX10_append 47 = .ok (.iload_n 1, 1) := by decide +kernel
theorem dX10_append_48 : decode cX10_append 48 = .ok (.i2c, 1) := by decide +kernel
theorem dX10_append_49 : decode cX10_append 49 = .ok (.invokevirtual 63, 3) := by decide +kernel
theorem dX10_append_52 : decode cX10_append 52 = .ok (.aload_n 0, 1) := by decide +kernel
theorem dX10_append_53 : decode cX10_append 53 = .ok (.getfield 12, 3) := by decide +kernel
theorem dX10_append_56 : decode cX10_append 56 = .ok (.getfield 54, 3) := by decide +kernel
theorem dX10_append_59 : decode cX10_append 59 = .ok (.ireturn, 1) := by decide +kernel
theorem dX10_clearText_0 : decode cX10_clearText 0 = .ok (.aload_n 0, 1) := by decide +kernel
theorem dX10_clearText_1 : decode cX10_clearText 1 = .ok (.getfield 12, 3) := by decide +kernel
theorem dX10_clearText_4 : decode cX10_clearText 4 = .ok (.getfield 54, 3) := by decide +kernel
theorem dX10_clearText_7 : decode cX10_clearText 7 = .ok (.istore_n 1, 1) := by decide +kernel
theorem dX10_clearText_8 : decode cX10_clearText 8 = .ok (.aload_n 0, 1) := by decide +kernel
theorem dX10_clearText_9 : decode cX10_clearText 9 = .ok (.getfield 12, 3) := by decide +kernel
theorem dX10_clearText_12 : decode cX10_clearText 12 = .ok (.iconst 0, 1) := by decide +kernel
theorem dX10_clearText_13 : decode cX10_clearText 13 = .ok (.putfield 54, 3) := by decide +kernel
theorem dX10_clearText_16 : decode cX10_clearText 16 = .ok (.iload_n 1, 1) := by decide +kernel
theorem dX10_clearText_17 : decode cX10_clearText 17 = .ok (.ireturn, 1) := by decide +kernel
theorem dX10_errorPosition_0 : decode cX10_errorPosition 0 = .ok (.aload_n 0, 1) := by decide +kernel
theorem dX10_errorPosition_1 : decode cX10_errorPosition 1 = .ok (.getfield 12, 3) := by decide +kernel
theorem dX10_errorPosition_4 : decode cX10_errorPosition 4 = .ok (.invokevirtual 67, 3) := by decide +kernel
theorem dX10_errorPosition_7 : decode cX10_errorPosition 7 = .ok (.ireturn, 1) := by decide +kernel
theorem dX10_load_0 : decode cX10_load 0 = .ok (.aload_n 0, 1) := by decide +kernel
theorem dX10_load_1 : decode cX10_load 1 = .ok (.getfield 12, 3) := by decide +kernel
theorem dX10_load_4 : decode cX10_load 4 = .ok (.invokevirtual 67, 3) := by decide +kernel
theorem dX10_load_7 : decode cX10_load 7 = .ok (.iconst (-1), 1) := by decide +kernel
theorem dX10_load_8 : decode cX10_load 8 = .ok (.if_icmp .eq 13, 3) := by decide +kernel
theorem dX10_load_11 : decode cX10_load 11 = .ok (.new 58, 3) := by decide +kernel
theorem dX10_load_14 : decode cX10_load 14 = .ok (.dup, 1) := by decide +kernel
theorem dX10_load_15 : decode cX10_load 15 = .ok (.ldc 71, 2) := by decide +kernel
theorem dX10_load_17 : decode cX10_load 17 = .ok (.invokespecial 62, 3) := by decide +kernel
theorem dX10_load_20 : decode cX10_load 20 = .ok (.athrow, 1) := by decide +kernel
theorem dX10_load_21 : decode cX10_load 21 = .ok (.aload_n 0, 1) := by decide +kernel
theorem dX10_load_22 : decode cX10_load 22 = .ok (.getfield 19, 3) := by decide +kernel
theorem dX10_load_25 : decode cX10_load 25 = .ok (.invokevirtual 73, 3) := by decide +kernel
theorem dX10_load_28 : decode cX10_load 28 = .ok (.aload_n 0, 1) := by decide +kernel
theorem dX10_load_29 : decode cX10_load 29 = .ok (.getfield 29, 3) := by decide +kernel
theorem dX10_load_32 : decode cX10_load 32 = .ok (.invokevirtual 76, 3) := by decide +kernel
theorem dX10_load_35 : decode cX10_load 35 = .ok (.aload_n 0, 1) := by decide +kernel
theorem dX10_load_36 : decode cX10_load 36 = .ok (.getfield 36, 3) := by decide +kernel
theorem dX10_load_39 : decode cX10_load 39 = .ok (.invokevirtual 79, 3) := by decide +kernel
theorem dX10_load_42 : decode cX10_load 42 = .ok (.iconst 0, 1) := by decide +kernel
theorem dX10_load_43 : decode cX10_load 43 = .ok (.istore_n 1, 1) := by decide +kernel
theorem dX10_load_44 : decode cX10_load 44 = .ok (.aload_n 0, 1) := by decide +kernel
theorem dX10_load_45 : decode cX10_load 45 = .ok (.getfield 12, 3) := by decide +kernel
theorem dX10_load_48 : decode cX10_load 48 = .ok (.invokevirtual 80, 3) := by decide +kernel
theorem dX10_load_51 : decode cX10_load 51 = .ok (.pop, 1) := by decide +kernel
theorem dX10_load_52 : decode cX10_load 52 = .ok (.iconst 0, 1) := by decide +kernel
theorem dX10_load_53 : decode cX10_load 53 = .ok (.istore_n 2, 1) := by decide +kernel
theorem dX10_load_54 : decode cX10_load 54 = .ok (.iload_n 2, 1) := by decide +kernel
theorem dX10_load_55 : decode cX10_load 55 = .ok (.bipush 120, 2) := by decide +kernel
theorem dX10_load_57 : decode cX10_load 57 = .ok (.if_icmp .ge 36, 3) := by decide +kernel
theorem dX10_load_60 : decode cX10_load 60 = .ok (.aload_n 0, 1) := by decide +kernel
theorem dX10_load_61 : decode cX10_load 61 = .ok (.getfield 12, 3) := by decide +kernel
theorem dX10_load_64 : decode cX10_load 64 = .ok (.invokevirtual 84, 3) := by decide +kernel
theorem dX10_load_67 : decode cX10_load 67 = .ok (.ifCond .eq 26, 3) := by decide +kernel
theorem dX10_load_70 : decode cX10_load 70 = .ok (.aload_n 0, 1) := by decide +kernel
theorem dX10_load_71 : decode cX10_load 71 = .ok (.getfield 19, 3) := by decide +kernel
theorem dX10_load_74 : decode cX10_load 74 = .ok (.aload_n 0, 1) := by decide +kernel
theorem dX10_load_75 : decode cX10_load 75 = .ok (.getfield 12, 3) := by decide +kernel
theorem dX10_load_78 : decode cX10_load 78 = .ok (.invokevirtual 87, 3) := by decide +kernel
theorem dX10_load_81 : decode cX10_load 81 = .ok (.ifCond .ne 6, 3) := by decide +kernel
theorem dX10_load_84 : decode cX10_load 84 = .ok (.iinc 1 1, 3) := by decide +kernel
theorem dX10_load_87 : decode cX10_load 87 = .ok (.iinc 2 1, 3) := by decide +kernel
theorem dX10_load_90 : decode cX10_load 90 = .ok (.goto (-36), 3) := by decide +kernel
theorem dX10_load_93 : decode cX10_load 93 = .ok (.iload_n 1, 1) := by decide +kernel
theorem dX10_load_94 : decode cX10_load 94 = .ok (.ireturn, 1) := by decide +kernel
theorem dX10_about_0 : decode cX10_about 0 = .ok (.iload_n 1, 1) := by decide +kernel
theorem dX10_about_1 : decode cX10_about 1 = .ok (.tableswitch 230 0 14 #[75, 86, 97, 109, 121, 133, 145, 157, 165, 176, 184, 192, 200, 210, 220], 75) := by decide +kernel
theorem dX10_about_76 : decode cX10_about 76 = .ok (.aload_n 0, 1) := by decide +kernel
theorem dX10_about_77 : decode cX10_about 77 = .ok (.getfield 19, 3) := by decide +kernel
theorem dX10_about_80 : decode cX10_about 80 = .ok (.getfield 91, 3) := by decide +kernel
theorem dX10_about_83 : decode cX10_about 83 = .ok (.getfield 95, 3) := by decide +kernel
theorem dX10_about_86 : decode cX10_about 86 = .ok (.ireturn, 1) := by decide +kernel
theorem dX10_about_87 : decode cX10_about 87 = .ok (.aload_n 0, 1) := by decide +kernel
theorem dX10_about_88 : decode cX10_about 88 = .ok (.getfield 19, 3) := by decide +kernel
theorem dX10_about_91 : decode cX10_about 91 = .ok (.getfield 100, 3) := by decide +kernel
theorem dX10_about_94 : decode cX10_about 94 = .ok (.getfield 104, 3) := by decide +kernel
theorem dX10_about_97 : decode cX10_about 97 = .ok (.ireturn, 1) := by decide +kernel
theorem dX10_about_98 : decode cX10_about 98 = .ok (.aload_n 0, 1) := by decide +kernel
theorem dX10_about_99 : decode cX10_about 99 = .ok (.getfield 19, 3) := by decide +kernel
theorem dX10_about_102 : decode cX10_about 102 = .ok (.getfield 100, 3) := by decide +kernel
theorem dX10_about_105 : decode cX10_about 105 = .ok (.iconst 0, 1) := by decide +kernel
theorem dX10_about_106 : decode cX10_about 106 = .ok (.invokevirtual 107, 3) := by decide +kernel
theorem dX10_about_109 : decode cX10_about 109 = .ok (.ireturn, 1) := by decide +kernel
theorem dX10_about_110 : decode cX10_about 110 = .ok (.aload_n 0, 1) := by decide +kernel
theorem dX10_about_111 : decode cX10_about 111 = .ok (.getfield 19, 3) := by decide +kernel
theorem dX10_about_114 : decode cX10_about 114 = .ok (.getfield 100, 3) := by decide +kernel
theorem dX10_about_117 : decode cX10_about 117 = .ok (.iconst 1, 1) := by decide +kernel
theorem dX10_about_118 : decode cX10_about 118 = .ok (.invokevirtual 107, 3) := by decide +kernel
theorem dX10_about_121 : decode cX10_about 121 = .ok (.ireturn, 1) := by decide +kernel
theorem dX10_about_122 : decode cX10_about 122 = .ok (.aload_n 0, 1) := by decide +kernel
theorem dX10_about_123 : decode cX10_about 123 = .ok (.getfield 19, 3) := by decide +kernel
theorem dX10_about_126 : decode cX10_about 126 = .ok (.getfield 100, 3) := by decide +kernel
theorem dX10_about_129 : decode cX10_about 129 = .ok (.iconst 2, 1) := by decide +kernel
theorem dX10_about_130 : decode cX10_about 130 = .ok (.invokevirtual 107, 3) := by decide +kernel
theorem dX10_about_133 : decode cX10_about 133 = .ok (.ireturn, 1) := by decide +kernel
theorem dX10_about_134 : decode cX10_about 134 = .ok (.aload_n 0, 1) := by decide +kernel
theorem dX10_about_135 : decode cX10_about 135 = .ok (.getfield 19, 3) := by decide +kernel
theorem dX10_about_138 : decode cX10_about 138 = .ok (.getfield 100, 3) := by decide +kernel
theorem dX10_about_141 : decode cX10_about 141 = .ok (.iconst 3, 1) := by decide +kernel
theorem dX10_about_142 : decode cX10_about 142 = .ok (.invokevirtual 107, 3) := by decide +kernel
theorem dX10_about_145 : decode cX10_about 145 = .ok (.ireturn, 1) := by decide +kernel
theorem dX10_about_146 : decode cX10_about 146 = .ok (.aload_n 0, 1) := by decide +kernel
theorem dX10_about_147 : decode cX10_about 147 = .ok (.getfield 19, 3) := by decide +kernel
theorem dX10_about_150 : decode cX10_about 150 = .ok (.getfield 100, 3) := by decide +kernel
theorem dX10_about_153 : decode cX10_about 153 = .ok (.iconst 4, 1) := by decide +kernel
theorem dX10_about_154 : decode cX10_about 154 = .ok (.invokevirtual 107, 3) := by decide +kernel
theorem dX10_about_157 : decode cX10_about 157 = .ok (.ireturn, 1) := by decide +kernel
theorem dX10_about_158 : decode cX10_about 158 = .ok (.aload_n 0, 1) := by decide +kernel
theorem dX10_about_159 : decode cX10_about 159 = .ok (.getfield 19, 3) := by decide +kernel
theorem dX10_about_162 : decode cX10_about 162 = .ok (.getfield 111, 3) := by decide +kernel
theorem dX10_about_165 : decode cX10_about 165 = .ok (.ireturn, 1) := by decide +kernel
theorem dX10_about_166 : decode cX10_about 166 = .ok (.aload_n 0, 1) := by decide +kernel
theorem dX10_about_167 : decode cX10_about 167 = .ok (.getfield 19, 3) := by decide +kernel
theorem dX10_about_170 : decode cX10_about 170 = .ok (.getfield 100, 3) := by decide +kernel
theorem dX10_about_173 : decode cX10_about 173 = .ok (.invokevirtual 114, 3) := by decide +kernel
theorem dX10_about_176 : decode cX10_about 176 = .ok (.ireturn, 1) := by decide +kernel
theorem dX10_about_177 : decode cX10_about 177 = .ok (.aload_n 0, 1) := by decide +kernel
theorem dX10_about_178 : decode cX10_about 178 = .ok (.getfield 19, 3) := by decide +kernel
theorem dX10_about_181 : decode cX10_about 181 = .ok (.getfield 117, 3) := by decide +kernel
theorem dX10_about_184 : decode cX10_about 184 = .ok (.ireturn, 1) := by decide +kernel
theorem dX10_about_185 : decode cX10_about 185 = .ok (.aload_n 0, 1) := by decide +kernel
theorem dX10_about_186 : decode cX10_about 186 = .ok (.getfield 19, 3) := by decide +kernel
theorem dX10_about_189 : decode cX10_about 189 = .ok (.getfield 120, 3) := by decide +kernel
theorem dX10_about_192 : decode cX10_about 192 = .ok (.ireturn, 1) := by decide +kernel
theorem dX10_about_193 : decode cX10_about 193 = .ok (.aload_n 0, 1) := by decide +kernel
theorem dX10_about_194 : decode cX10_about 194 = .ok (.getfield 19, 3) := by decide +kernel
theorem dX10_about_197 : decode cX10_about 197 = .ok (.getfield 123, 3) := by decide +kernel
theorem dX10_about_200 : decode cX10_about 200 = .ok (.ireturn, 1) := by decide +kernel
theorem dX10_about_201 : decode cX10_about 201 = .ok (.aload_n 0, 1) := by decide +kernel
theorem dX10_about_202 : decode cX10_about 202 = .ok (.getfield 19, 3) := by decide +kernel
theorem dX10_about_205 : decode cX10_about 205 = .ok (.getfield 126, 3) := by decide +kernel
theorem dX10_about_208 : decode cX10_about 208 = .ok (.iconst 0, 1) := by decide +kernel
theorem dX10_about_209 : decode cX10_about 209 = .ok (.iaload, 1) := by decide +kernel
theorem dX10_about_210 : decode cX10_about 210 = .ok (.ireturn, 1) := by decide +kernel
theorem dX10_about_211 : decode cX10_about 211 = .ok (.aload_n 0, 1) := by decide +kernel
theorem dX10_about_212 : decode cX10_about 212 = .ok (.getfield 19, 3) := by decide +kernel
theorem dX10_about_215 : decode cX10_about 215 = .ok (.getfield 126, 3) := by decide +kernel
theorem dX10_about_218 : decode cX10_about 218 = .ok (.iconst 1, 1) := by decide +kernel
theorem dX10_about_219 : decode cX10_about 219 = .ok (.iaload, 1) := by decide +kernel
theorem dX10_about_220 : decode cX10_about 220 = .ok (.ireturn, 1) := by decide +kernel
theorem dX10_about_221 : decode cX10_about 221 = .ok (.aload_n 0, 1) := by decide +kernel
theorem dX10_about_222 : decode cX10_about 222 = .ok (.getfield 19, 3) := by decide +kernel
theorem dX10_about_225 : decode cX10_about 225 = .ok (.getfield 126, 3) := by decide +kernel
theorem dX10_about_228 : decode cX10_about 228 = .ok (.iconst 2, 1) := by decide +kernel
theorem dX10_about_229 : decode cX10_about 229 = .ok (.iaload, 1) := by decide +kernel
theorem dX10_about_230 : decode cX10_about 230 = .ok (.ireturn, 1) := by decide +kernel
theorem dX10_about_231 : decode cX10_about 231 = .ok (.new 47, 3) := by decide +kernel
theorem dX10_about_234 : decode cX10_about 234 = .ok (.dup, 1) := by decide +kernel
theorem dX10_about_235 : decode cX10_about 235 = .ok (.ldc 130, 2) := by decide +kernel
theorem dX10_about_237 : decode cX10_about 237 = .ok (.invokespecial 51, 3) := by decide +kernel
theorem dX10_about_240 : decode cX10_about 240 = .ok (.athrow, 1) := by decide +kernel
theorem dX10_personOf_0 : decode cX10_personOf 0 = .ok (.aload_n 0, 1) := by decide +kernel
theorem dX10_personOf_1 : decode cX10_personOf 1 = .ok (.iload_n 1, 1) := by decide +kernel
theorem dX10_personOf_2 : decode cX10_personOf 2 = .ok (.invokevirtual 132, 3) := by decide +kernel
theorem dX10_personOf_5 : decode cX10_personOf 5 = .ok (.iload_n 2, 1) := by decide +kernel
theorem dX10_personOf_6 : decode cX10_personOf 6 = .ok (.tableswitch 163 0 8 #[50, 63, 76, 89, 101, 113, 125, 137, 150], 50) := by decide +kernel
theorem dX10_personOf_56 : decode cX10_personOf 56 = .ok (.aload_n 0, 1) := by decide +kernel
theorem dX10_personOf_57 : decode cX10_personOf 57 = .ok (.getfield 19, 3) := by decide +kernel
theorem dX10_personOf_60 : decode cX10_personOf 60 = .ok (.getfield 91, 3) := by decide +kernel
theorem dX10_personOf_63 : decode cX10_personOf 63 = .ok (.getfield 136, 3) := by decide +kernel
theorem dX10_personOf_66 : decode cX10_personOf 66 = .ok (.iload_n 1, 1) := by decide +kernel
theorem dX10_personOf_67 : decode cX10_personOf 67 = .ok (.iaload, 1) := by decide +kernel
theorem dX10_personOf_68 : decode cX10_personOf 68 = .ok (.ireturn, 1) := by decide +kernel
theorem dX10_personOf_69 : decode cX10_personOf 69 = .ok (.aload_n 0, 1) := by decide +kernel
theorem dX10_personOf_70 : decode cX10_personOf 70 = .ok (.getfield 19, 3) := by decide +kernel
theorem dX10_personOf_73 : decode cX10_personOf 73 = .ok (.getfield 91, 3) := by decide +kernel
theorem dX10_personOf_76 : decode cX10_personOf 76 = .ok (.getfield 139, 3) := by decide +kernel
theorem dX10_personOf_79 : decode cX10_personOf 79 = .ok (.iload_n 1, 1) := by decide +kernel
theorem dX10_personOf_80 : decode cX10_personOf 80 = .ok (.iaload, 1) := by decide +kernel
theorem dX10_personOf_81 : decode cX10_personOf 81 = .ok (.ireturn, 1) := by decide +kernel
theorem dX10_personOf_82 : decode cX10_personOf 82 = .ok (.aload_n 0, 1) := by decide +kernel
theorem dX10_personOf_83 : decode cX10_personOf 83 = .ok (.getfield 19, 3) := by decide +kernel
theorem dX10_personOf_86 : decode cX10_personOf 86 = .ok (.getfield 91, 3) := by decide +kernel
theorem dX10_personOf_89 : decode cX10_personOf 89 = .ok (.getfield 142, 3) := by decide +kernel
theorem dX10_personOf_92 : decode cX10_personOf 92 = .ok (.iload_n 1, 1) := by decide +kernel
theorem dX10_personOf_93 : decode cX10_personOf 93 = .ok (.iaload, 1) := by decide +kernel
theorem dX10_personOf_94 : decode cX10_personOf 94 = .ok (.ireturn, 1) := by decide +kernel
theorem dX10_personOf_95 : decode cX10_personOf 95 = .ok (.aload_n 0, 1) := by decide +kernel
theorem dX10_personOf_96 : decode cX10_personOf 96 = .ok (.getfield 19, 3) := by decide +kernel
theorem dX10_personOf_99 : decode cX10_personOf 99 = .ok (.getfield 100, 3) := by decide +kernel
theorem dX10_personOf_102 : decode cX10_personOf 102 = .ok (.iload_n 1, 1) := by decide +kernel
theorem dX10_personOf_103 : decode cX10_personOf 103 = .ok (.invokevirtual 145, 3) := by decide +kernel
theorem dX10_personOf_106 : decode cX10_personOf 106 = .ok (.ireturn, 1) := by decide +kernel
theorem dX10_personOf_107 : decode cX10_personOf 107 = .ok (.aload_n 0, 1) := by decide +kernel
theorem dX10_personOf_108 : decode cX10_personOf 108 = .ok (.getfield 19, 3) := by decide +kernel
theorem dX10_personOf_111 : decode cX10_personOf 111 = .ok (.getfield 91, 3) := by decide +kernel
theorem dX10_personOf_114 : decode cX10_personOf 114 = .ok (.iload_n 1, 1) := by decide +kernel
theorem dX10_personOf_115 : decode cX10_personOf 115 = .ok (.invokevirtual 148, 3) := by decide +kernel
theorem dX10_personOf_118 : decode cX10_personOf 118 = .ok (.ireturn, 1) := by decide +kernel
theorem dX10_personOf_119 : decode cX10_personOf 119 = .ok (.aload_n 0, 1) := by decide +kernel
theorem dX10_personOf_120 : decode cX10_personOf 120 = .ok (.getfield 19, 3) := by decide +kernel
theorem dX10_personOf_123 : decode cX10_personOf 123 = .ok (.getfield 100, 3) := by decide +kernel
theorem dX10_personOf_126 : decode cX10_personOf 126 = .ok (.iload_n 1, 1) := by decide +kernel
theorem dX10_personOf_127 : decode cX10_personOf 127 = .ok (.invokevirtual 151, 3) := by decide +kernel
theorem dX10_personOf_130 : decode cX10_personOf 130 = .ok (.ireturn, 1) := by decide +kernel
theorem dX10_personOf_131 : decode cX10_personOf 131 = .ok (.aload_n 0, 1) := by decide +kernel
theorem dX10_personOf_132 : decode cX10_personOf 132 = .ok (.getfield 19, 3) := by decide +kernel
theorem dX10_personOf_135 : decode cX10_personOf 135 = .ok (.getfield 100, 3) := by decide +kernel
theorem dX10_personOf_138 : decode cX10_personOf 138 = .ok (.iload_n 1, 1) := by decide +kernel
theorem dX10_personOf_139 : decode cX10_personOf 139 = .ok (.invokevirtual 154, 3) := by decide +kernel
theorem dX10_personOf_142 : decode cX10_personOf 142 = .ok (.ireturn, 1) := by decide +kernel
theorem dX10_personOf_143 : decode cX10_personOf 143 = .ok (.aload_n 0, 1) := by decide +kernel
theorem dX10_personOf_144 : decode cX10_personOf 144 = .ok (.getfield 19, 3) := by decide +kernel
theorem dX10_personOf_147 : decode cX10_personOf 147 = .ok (.getfield 91, 3) := by decide +kernel
theorem dX10_personOf_150 : decode cX10_personOf 150 = .ok (.getfield 157, 3) := by decide +kernel
theorem dX10_personOf_153 : decode cX10_personOf 153 = .ok (.iload_n 1, 1) := by decide +kernel
theorem dX10_personOf_154 : decode cX10_personOf 154 = .ok (.iaload, 1) := by decide +kernel
theorem dX10_personOf_155 : decode cX10_personOf 155 = .ok (.ireturn, 1) := by decide +kernel
theorem dX10_personOf_156 : decode cX10_personOf 156 = .ok (.aload_n 0, 1) := by decide +kernel
theorem dX10_personOf_157 : decode cX10_personOf 157 = .ok (.getfield 19, 3) := by decide +kernel
theorem dX10_personOf_160 : decode cX10_personOf 160 = .ok (.getfield 91, 3) := by decide +kernel
theorem dX10_personOf_163 : decode cX10_personOf 163 = .ok (.getfield 160, 3) := by decide +kernel
theorem dX10_personOf_166 : decode cX10_personOf 166 = .ok (.iload_n 1, 1) := by decide +kernel
theorem dX10_personOf_167 : decode cX10_personOf 167 = .ok (.iaload, 1) := by decide +kernel
theorem dX10_personOf_168 : decode cX10_personOf 168 = .ok (.ireturn, 1) := by decide +kernel
theorem dX10_personOf_169 : decode cX10_personOf 169 = .ok (.new 47, 3) := by decide +kernel
theorem dX10_personOf_172 : decode cX10_personOf 172 = .ok (.dup, 1) := by decide +kernel
theorem dX10_personOf_173 : decode cX10_personOf 173 = .ok (.ldc 163, 2) := by decide +kernel
theorem dX10_personOf_175 : decode cX10_personOf 175 = .ok (.invokespecial 51, 3) := by decide +kernel
theorem dX10_personOf_178 : decode cX10_personOf 178 = .ok (.athrow, 1) := by decide +kernel
theorem dX10_nameOf_0 : decode cX10_nameOf 0 = .ok (.aload_n 0, 1) := by decide +kernel
theorem dX10_nameOf_1 : decode cX10_nameOf 1 = .ok (.iload_n 1, 1) := by decide +kernel
theorem dX10_nameOf_2 : decode cX10_nameOf 2 = .ok (.invokevirtual 165, 3) := by decide +kernel
theorem dX10_nameOf_5 : decode cX10_nameOf 5 = .ok (.iload_n 2, 1) := by decide +kernel
theorem dX10_nameOf_6 : decode cX10_nameOf 6 = .ok (.tableswitch 158 0 7 #[46, 59, 72, 85, 98, 111, 124, 137], 46) := by decide +kernel
theorem dX10_nameOf_52 : decode cX10_nameOf 52 = .ok (.aload_n 0, 1) := by decide +kernel
theorem dX10_nameOf_53 : decode cX10_nameOf 53 = .ok (.getfield 19, 3) := by decide +kernel
theorem dX10_nameOf_56 : decode cX10_nameOf 56 = .ok (.getfield 100, 3) := by decide +kernel
theorem dX10_nameOf_59 : decode cX10_nameOf 59 = .ok (.getfield 168, 3) := by decide +kernel
theorem dX10_nameOf_62 : decode cX10_nameOf 62 = .ok (.iload_n 1, 1) := by decide +kernel
theorem dX10_nameOf_63 : decode cX10_nameOf 63 = .ok (.iaload, 1) := by decide +kernel
theorem dX10_nameOf_64 : decode cX10_nameOf 64 = .ok (.ireturn, 1) := by decide +kernel
theorem dX10_nameOf_65 : decode cX10_nameOf 65 = .ok (.aload_n 0, 1) := by decide +kernel
theorem dX10_nameOf_66 : decode cX10_nameOf 66 = .ok (.getfield 19, 3) := by decide +kernel
theorem dX10_nameOf_69 : decode cX10_nameOf 69 = .ok (.getfield 100, 3) := by decide +kernel
theorem dX10_nameOf_72 : decode cX10_nameOf 72 = .ok (.getfield 171, 3) := by decide +kernel
theorem dX10_nameOf_75 : decode cX10_nameOf 75 = .ok (.iload_n 1, 1) := by decide +kernel
theorem dX10_nameOf_76 : decode cX10_nameOf 76 = .ok (.iaload, 1) := by decide +kernel
theorem dX10_nameOf_77 : decode cX10_nameOf 77 = .ok (.ireturn, 1) := by decide +kernel
theorem dX10_nameOf_78 : decode cX10_nameOf 78 = .ok (.aload_n 0, 1) := by decide +kernel
theorem dX10_nameOf_79 : decode cX10_nameOf 79 = .ok (.getfield 19, 3) := by decide +kernel
theorem dX10_nameOf_82 : decode cX10_nameOf 82 = .ok (.getfield 100, 3) := by decide +kernel
theorem dX10_nameOf_85 : decode cX10_nameOf 85 = .ok (.getfield 174, 3) := by decide +kernel
theorem dX10_nameOf_88 : decode cX10_nameOf 88 = .ok (.iload_n 1, 1) := by decide +kernel
theorem dX10_nameOf_89 : decode cX10_nameOf 89 = .ok (.iaload, 1) := by decide +kernel
theorem dX10_nameOf_90 : decode cX10_nameOf 90 = .ok (.ireturn, 1) := by decide +kernel
theorem dX10_nameOf_91 : decode cX10_nameOf 91 = .ok (.aload_n 0, 1) := by decide +kernel
theorem dX10_nameOf_92 : decode cX10_nameOf 92 = .ok (.getfield 19, 3) := by decide +kernel
theorem dX10_nameOf_95 : decode cX10_nameOf 95 = .ok (.getfield 100, 3) := by decide +kernel
theorem dX10_nameOf_98 : decode cX10_nameOf 98 = .ok (.getfield 177, 3) := by decide +kernel
theorem dX10_nameOf_101 : decode cX10_nameOf 101 = .ok (.iload_n 1, 1) := by decide +kernel
theorem dX10_nameOf_102 : decode cX10_nameOf 102 = .ok (.iaload, 1) := by decide +kernel
theorem dX10_nameOf_103 : decode cX10_nameOf 103 = .ok (.ireturn, 1) := by decide +kernel
theorem dX10_nameOf_104 : decode cX10_nameOf 104 = .ok (.aload_n 0, 1) := by decide +kernel
theorem dX10_nameOf_105 : decode cX10_nameOf 105 = .ok (.getfield 19, 3) := by decide +kernel
theorem dX10_nameOf_108 : decode cX10_nameOf 108 = .ok (.getfield 100, 3) := by decide +kernel
theorem dX10_nameOf_111 : decode cX10_nameOf 111 = .ok (.getfield 180, 3) := by decide +kernel
theorem dX10_nameOf_114 : decode cX10_nameOf 114 = .ok (.iload_n 1, 1) := by decide +kernel
theorem dX10_nameOf_115 : decode cX10_nameOf 115 = .ok (.iaload, 1) := by decide +kernel
theorem dX10_nameOf_116 : decode cX10_nameOf 116 = .ok (.ireturn, 1) := by decide +kernel
theorem dX10_nameOf_117 : decode cX10_nameOf 117 = .ok (.aload_n 0, 1) := by decide +kernel
theorem dX10_nameOf_118 : decode cX10_nameOf 118 = .ok (.getfield 19, 3) := by decide +kernel
theorem dX10_nameOf_121 : decode cX10_nameOf 121 = .ok (.getfield 100, 3) := by decide +kernel
theorem dX10_nameOf_124 : decode cX10_nameOf 124 = .ok (.getfield 183, 3) := by decide +kernel
theorem dX10_nameOf_127 : decode cX10_nameOf 127 = .ok (.iload_n 1, 1) := by decide +kernel
theorem dX10_nameOf_128 : decode cX10_nameOf 128 = .ok (.iaload, 1) := by decide +kernel
theorem dX10_nameOf_129 : decode cX10_nameOf 129 = .ok (.ireturn, 1) := by decide +kernel
theorem dX10_nameOf_130 : decode cX10_nameOf 130 = .ok (.aload_n 0, 1) := by decide +kernel
theorem dX10_nameOf_131 : decode cX10_nameOf 131 = .ok (.getfield 19, 3) := by decide +kernel
theorem dX10_nameOf_134 : decode cX10_nameOf 134 = .ok (.getfield 100, 3) := by decide +kernel
theorem dX10_nameOf_137 : decode cX10_nameOf 137 = .ok (.getfield 186, 3) := by decide +kernel
theorem dX10_nameOf_140 : decode cX10_nameOf 140 = .ok (.iload_n 1, 1) := by decide +kernel
theorem dX10_nameOf_141 : decode cX10_nameOf 141 = .ok (.iaload, 1) := by decide +kernel
theorem dX10_nameOf_142 : decode cX10_nameOf 142 = .ok (.ireturn, 1) := by decide +kernel
theorem dX10_nameOf_143 : decode cX10_nameOf 143 = .ok (.aload_n 0, 1) := by decide +kernel
theorem dX10_nameOf_144 : decode cX10_nameOf 144 = .ok (.getfield 19, 3) := by decide +kernel
theorem dX10_nameOf_147 : decode cX10_nameOf 147 = .ok (.getfield 100, 3) := by decide +kernel
theorem dX10_nameOf_150 : decode cX10_nameOf 150 = .ok (.getfield 189, 3) := by decide +kernel
theorem dX10_nameOf_153 : decode cX10_nameOf 153 = .ok (.iload_n 1, 1) := by decide +kernel
theorem dX10_nameOf_154 : decode cX10_nameOf 154 = .ok (.baload, 1) := by decide +kernel
theorem dX10_nameOf_155 : decode cX10_nameOf 155 = .ok (.ifCond .eq 7, 3) := by decide +kernel
theorem dX10_nameOf_158 : decode cX10_nameOf 158 = .ok (.iconst 1, 1) := by decide +kernel
theorem dX10_nameOf_159 : decode cX10_nameOf 159 = .ok (.goto 4, 3) := by decide +kernel
theorem dX10_nameOf_162 : decode cX10_nameOf 162 = .ok (.iconst 0, 1) := by decide +kernel
theorem dX10_nameOf_163 : decode cX10_nameOf 163 = .ok (.ireturn, 1) := by decide +kernel
theorem dX10_nameOf_164 : decode cX10_nameOf 164 = .ok (.new 47, 3) := by decide +kernel
theorem dX10_nameOf_167 : decode cX10_nameOf 167 = .ok (.dup, 1) := by decide +kernel
theorem dX10_nameOf_168 : decode cX10_nameOf 168 = .ok (.ldc 193, 2) := by decide +kernel
theorem dX10_nameOf_170 : decode cX10_nameOf 170 = .ok (.invokespecial 51, 3) := by decide +kernel
theorem dX10_nameOf_173 : decode cX10_nameOf 173 = .ok (.athrow, 1) := by decide +kernel
theorem dX10_letter_0 : decode cX10_letter 0 = .ok (.aload_n 0, 1) := by decide +kernel
theorem dX10_letter_1 : decode cX10_letter 1 = .ok (.iload_n 1, 1) := by decide +kernel
theorem dX10_letter_2 : decode cX10_letter 2 = .ok (.invokevirtual 165, 3) := by decide +kernel
theorem dX10_letter_5 : decode cX10_letter 5 = .ok (.iload_n 2, 1) := by decide +kernel
theorem dX10_letter_6 : decode cX10_letter 6 = .ok (.ifCond .ge 13, 3) := by decide +kernel
theorem dX10_letter_9 : decode cX10_letter 9 = .ok (.new 195, 3) := by decide +kernel
theorem dX10_letter_12 : decode cX10_letter 12 = .ok (.dup, 1) := by decide +kernel
theorem dX10_letter_13 : decode cX10_letter 13 = .ok (.ldc 197, 2) := by decide +kernel
theorem dX10_letter_15 : decode cX10_letter 15 = .ok (.invokespecial 199, 3) := by decide +kernel
theorem dX10_letter_18 : decode cX10_letter 18 = .ok (.athrow, 1) := by decide +kernel
theorem dX10_letter_19 : decode cX10_letter 19 = .ok (.iload_n 2, 1) := by decide +kernel
theorem dX10_letter_20 : decode cX10_letter 20 = .ok (.aload_n 0, 1) := by decide +kernel
theorem dX10_letter_21 : decode cX10_letter 21 = .ok (.getfield 19, 3) := by decide +kernel
theorem dX10_letter_24 : decode cX10_letter 24 = .ok (.getfield 100, 3) := by decide +kernel
theorem dX10_letter_27 : decode cX10_letter 27 = .ok (.getfield 168, 3) := by decide +kernel
theorem dX10_letter_30 : decode cX10_letter 30 = .ok (.iload_n 1, 1) := by decide +kernel
theorem dX10_letter_31 : decode cX10_letter 31 = .ok (.iaload, 1) := by decide +kernel
theorem dX10_letter_32 : decode cX10_letter 32 = .ok (.if_icmp .lt 5, 3) := by decide +kernel
theorem dX10_letter_35 : decode cX10_letter 35 = .ok (.iconst (-1), 1) := by decide +kernel
theorem dX10_letter_36 : decode cX10_letter 36 = .ok (.ireturn, 1) := by decide +kernel
theorem dX10_letter_37 : decode cX10_letter 37 = .ok (.aload_n 0, 1) := by decide +kernel
theorem dX10_letter_38 : decode cX10_letter 38 = .ok (.getfield 19, 3) := by decide +kernel
theorem dX10_letter_41 : decode cX10_letter 41 = .ok (.getfield 100, 3) := by decide +kernel
theorem dX10_letter_44 : decode cX10_letter 44 = .ok (.getfield 168, 3) := by decide +kernel
theorem dX10_letter_47 : decode cX10_letter 47 = .ok (.iload_n 1, 1) := by decide +kernel
theorem dX10_letter_48 : decode cX10_letter 48 = .ok (.iaload, 1) := by decide +kernel
theorem dX10_letter_49 : decode cX10_letter 49 = .ok (.aload_n 0, 1) := by decide +kernel
theorem dX10_letter_50 : decode cX10_letter 50 = .ok (.getfield 19, 3) := by decide +kernel
theorem dX10_letter_53 : decode cX10_letter 53 = .ok (.getfield 100, 3) := by decide +kernel
theorem dX10_letter_56 : decode cX10_letter 56 = .ok (.getfield 171, 3) := by decide +kernel
theorem dX10_letter_59 : decode cX10_letter 59 = .ok (.iload_n 1, 1) := by decide +kernel
theorem dX10_letter_60 : decode cX10_letter 60 = .ok (.iaload, 1) := by decide +kernel
theorem dX10_letter_61 : decode cX10_letter 61 = .ok (.iload_n 2, 1) := by decide +kernel
theorem dX10_letter_62 : decode cX10_letter 62 = .ok (.invokestatic 200, 3) := by decide +kernel
theorem dX10_letter_65 : decode cX10_letter 65 = .ok (.ireturn, 1) := by decide +kernel
theorem dX10_roll_0 : decode cX10_roll 0 = .ok (.iload_n 1, 1) := by decide +kernel
theorem dX10_roll_1 : decode cX10_roll 1 = .ok (.ifCond .ge 13, 3) := by decide +kernel
theorem dX10_roll_4 : decode cX10_roll 4 = .ok (.new 47, 3) := by decide +kernel
theorem dX10_roll_7 : decode cX10_roll 7 = .ok (.dup, 1) := by decide +kernel
theorem dX10_roll_8 : decode cX10_roll 8 = .ok (.ldc 206, 2) := by decide +kernel
theorem dX10_roll_10 : decode cX10_roll 10 = .ok (.invokespecial 51, 3) := by decide +kernel
theorem dX10_roll_13 : decode cX10_roll 13 = .ok (.athrow, 1) := by decide +kernel
theorem dX10_roll_14 : decode cX10_roll 14 = .ok (.aload_n 0, 1) := by decide +kernel
theorem dX10_roll_15 : decode cX10_roll 15 = .ok (.getfield 19, 3) := by decide +kernel
theorem dX10_roll_18 : decode cX10_roll 18 = .ok (.getfield 100, 3) := by decide +kernel
theorem dX10_roll_21 : decode cX10_roll 21 = .ok (.iload_n 1, 1) := by decide +kernel
theorem dX10_roll_22 : decode cX10_roll 22 = .ok (.invokevirtual 208, 3) := by decide +kernel
theorem dX10_roll_25 : decode cX10_roll 25 = .ok (.ireturn, 1) := by decide +kernel
theorem dX10_meant_0 : decode cX10_meant 0 = .ok (.iload_n 1, 1) := by decide +kernel
theorem dX10_meant_1 : decode cX10_meant 1 = .ok (.invokestatic 211, 3) := by decide +kernel
theorem dX10_meant_4 : decode cX10_meant 4 = .ok (.iload_n 2, 1) := by decide +kernel
theorem dX10_meant_5 : decode cX10_meant 5 = .ok (.iload_n 3, 1) := by decide +kernel
theorem dX10_meant_6 : decode cX10_meant 6 = .ok (.invokestatic 214, 3) := by decide +kernel
theorem dX10_meant_9 : decode cX10_meant 9 = .ok (.iload 4, 2) := by decide +kernel
theorem dX10_meant_11 : decode cX10_meant 11 = .ok (.lookupswitch 47 #[(0, 25), (1, 36)], 25) := by decide +kernel
theorem dX10_meant_36 : decode cX10_meant 36 = .ok (.aload_n 0, 1) := by decide +kernel
theorem dX10_meant_37 : decode cX10_meant 37 = .ok (.getfield 19, 3) := by decide +kernel
theorem dX10_meant_40 : decode cX10_meant 40 = .ok (.iload_n 1, 1) := by decide +kernel
theorem dX10_meant_41 : decode cX10_meant 41 = .ok (.iload_n 2, 1) := by decide +kernel
theorem dX10_meant_42 : decode cX10_meant 42 = .ok (.iload_n 3, 1) := by decide +kernel
theorem dX10_meant_43 : decode cX10_meant 43 = .ok (.invokevirtual 218, 3) := by decide +kernel
theorem dX10_meant_46 : decode cX10_meant 46 = .ok (.ireturn, 1) := by decide +kernel
theorem dX10_meant_47 : decode cX10_meant 47 = .ok (.aload_n 0, 1) := by decide +kernel
theorem dX10_meant_48 : decode cX10_meant 48 = .ok (.getfield 19, 3) := by decide +kernel
theorem dX10_meant_51 : decode cX10_meant 51 = .ok (.iload_n 1, 1) := by decide +kernel
theorem dX10_meant_52 : decode cX10_meant 52 = .ok (.iload_n 2, 1) := by decide +kernel
theorem dX10_meant_53 : decode cX10_meant 53 = .ok (.iload_n 3, 1) := by decide +kernel
theorem dX10_meant_54 : decode cX10_meant 54 = .ok (.invokevirtual 221, 3) := by decide +kernel
theorem dX10_meant_57 : decode cX10_meant 57 = .ok (.ireturn, 1) := by decide +kernel
theorem dX10_meant_58 : decode cX10_meant 58 = .ok (.new 47, 3) := by decide +kernel
theorem dX10_meant_61 : decode cX10_meant 61 = .ok (.dup, 1) := by decide +kernel
theorem dX10_meant_62 : decode cX10_meant 62 = .ok (.ldc 224, 2) := by decide +kernel
theorem dX10_meant_64 : decode cX10_meant 64 = .ok (.invokespecial 51, 3) := by decide +kernel
theorem dX10_meant_67 : decode cX10_meant 67 = .ok (.athrow, 1) := by decide +kernel
theorem dX10_person_0 : decode cX10_person 0 = .ok (.iload_n 2, 1) := by decide +kernel
theorem dX10_person_1 : decode cX10_person 1 = .ok (.invokestatic 226, 3) := by decide +kernel
theorem dX10_person_4 : decode cX10_person 4 = .ok (.ifCond .ne 13, 3) := by decide +kernel
theorem dX10_person_7 : decode cX10_person 7 = .ok (.new 195, 3) := by decide +kernel
theorem dX10_person_10 : decode cX10_person 10 = .ok (.dup, 1) := by decide +kernel
theorem dX10_person_11 : decode cX10_person 11 = .ok (.ldc 230, 2) := by decide +kernel
theorem dX10_person_13 : decode cX10_person 13 = .ok (.invokespecial 199, 3) := by decide +kernel
theorem dX10_person_16 : decode cX10_person 16 = .ok (.athrow, 1) := by decide +kernel
theorem dX10_person_17 : decode cX10_person 17 = .ok (.iload_n 3, 1) := by decide +kernel
theorem dX10_person_18 : decode cX10_person 18 = .ok (.invokestatic 211, 3) := by decide +kernel
theorem dX10_person_21 : decode cX10_person 21 = .ok (.iload_n 1, 1) := by decide +kernel
theorem dX10_person_22 : decode cX10_person 22 = .ok (.invokestatic 232, 3) := by decide +kernel
theorem dX10_person_25 : decode cX10_person 25 = .ok (.ifCond .ne 13, 3) := by decide +kernel
theorem dX10_person_28 : decode cX10_person 28 = .ok (.new 47, 3) := by decide +kernel
theorem dX10_person_31 : decode cX10_person 31 = .ok (.dup, 1) := by decide +kernel
theorem dX10_person_32 : decode cX10_person 32 = .ok (.ldc 235, 2) := by decide +kernel
theorem dX10_person_34 : decode cX10_person 34 = .ok (.invokespecial 51, 3) := by decide +kernel
theorem dX10_person_37 : decode cX10_person 37 = .ok (.athrow, 1) := by decide +kernel
theorem dX10_person_38 : decode cX10_person 38 = .ok (.aload_n 0, 1) := by decide +kernel
theorem dX10_person_39 : decode cX10_person 39 = .ok (.getfield 19, 3) := by decide +kernel
theorem dX10_person_42 : decode cX10_person 42 = .ok (.getfield 91, 3) := by decide +kernel
theorem dX10_person_45 : decode cX10_person 45 = .ok (.invokevirtual 237, 3) := by decide +kernel
theorem dX10_person_48 : decode cX10_person 48 = .ok (.ifCond .eq 13, 3) := by decide +kernel
theorem dX10_person_51 : decode cX10_person 51 = .ok (.new 58, 3) := by decide +kernel
theorem dX10_person_54 : decode cX10_person 54 = .ok (.dup, 1) := by decide +kernel
theorem dX10_person_55 : decode cX10_person 55 = .ok (.ldc 240, 2) := by decide +kernel
theorem dX10_person_57 : decode cX10_person 57 = .ok (.invokespecial 62, 3) := by decide +kernel
theorem dX10_person_60 : decode cX10_person 60 = .ok (.athrow, 1) := by decide +kernel
theorem dX10_person_61 : decode cX10_person 61 = .ok (.aload_n 0, 1) := by decide +kernel
theorem dX10_person_62 : decode cX10_person 62 = .ok (.getfield 29, 3) := by decide +kernel
theorem dX10_person_65 : decode cX10_person 65 = .ok (.aload_n 0, 1) := by decide +kernel
theorem dX10_person_66 : decode cX10_person 66 = .ok (.getfield 19, 3) := by decide +kernel
theorem dX10_person_69 : decode cX10_person 69 = .ok (.invokevirtual 242, 3) := by decide +kernel
theorem dX10_person_72 : decode cX10_person 72 = .ok (.aload_n 0, 1) := by decide +kernel
theorem dX10_person_73 : decode cX10_person 73 = .ok (.getfield 19, 3) := by decide +kernel
theorem dX10_person_76 : decode cX10_person 76 = .ok (.getfield 91, 3) := by decide +kernel
theorem dX10_person_79 : decode cX10_person 79 = .ok (.iload_n 1, 1) := by decide +kernel
theorem dX10_person_80 : decode cX10_person 80 = .ok (.iload_n 2, 1) := by decide +kernel
theorem dX10_person_81 : decode cX10_person 81 = .ok (.iload_n 3, 1) := by decide +kernel
theorem dX10_person_82 : decode cX10_person 82 = .ok (.invokevirtual 246, 3) := by decide +kernel
theorem dX10_person_85 : decode cX10_person 85 = .ok (.aload_n 0, 1) := by decide +kernel
theorem dX10_person_86 : decode cX10_person 86 = .ok (.getfield 19, 3) := by decide +kernel
theorem dX10_person_89 : decode cX10_person 89 = .ok (.getfield 91, 3) := by decide +kernel
theorem dX10_person_92 : decode cX10_person 92 = .ok (.getfield 95, 3) := by decide +kernel
theorem dX10_person_95 : decode cX10_person 95 = .ok (.iconst 1, 1) := by decide +kernel
theorem dX10_person_96 : decode cX10_person 96 = .ok (.isub, 1) := by decide +kernel
theorem dX10_person_97 : decode cX10_person 97 = .ok (.ireturn, 1) := by decide +kernel
theorem dX10_sit_0 : decode cX10_sit 0 = .ok (.aload_n 0, 1) := by decide +kernel
theorem dX10_sit_1 : decode cX10_sit 1 = .ok (.iload_n 1, 1) := by decide +kernel
theorem dX10_sit_2 : decode cX10_sit 2 = .ok (.invokevirtual 132, 3) := by decide +kernel
theorem dX10_sit_5 : decode cX10_sit 5 = .ok (.iload_n 2, 1) := by decide +kernel
theorem dX10_sit_6 : decode cX10_sit 6 = .ok (.invokestatic 211, 3) := by decide +kernel
theorem dX10_sit_9 : decode cX10_sit 9 = .ok (.aload_n 0, 1) := by decide +kernel
theorem dX10_sit_10 : decode cX10_sit 10 = .ok (.getfield 19, 3) := by decide +kernel
theorem dX10_sit_13 : decode cX10_sit 13 = .ok (.iload_n 1, 1) := by decide +kernel
theorem dX10_sit_14 : decode cX10_sit 14 = .ok (.iload_n 2, 1) := by decide +kernel
theorem dX10_sit_15 : decode cX10_sit 15 = .ok (.invokevirtual 250, 3) := by decide +kernel
theorem dX10_sit_18 : decode cX10_sit 18 = .ok (.ifCond .eq 13, 3) := by decide +kernel
theorem dX10_sit_21 : decode cX10_sit 21 = .ok (.new 58, 3) := by decide +kernel
theorem dX10_sit_24 : decode cX10_sit 24 = .ok (.dup, 1) := by decide +kernel
theorem dX10_sit_25 : decode cX10_sit 25 = .ok (.ldc 254, 2) := by decide +kernel
theorem dX10_sit_27 : decode cX10_sit 27 = .ok (.invokespecial 62, 3) := by decide +kernel
theorem dX10_sit_30 : decode cX10_sit 30 = .ok (.athrow, 1) := by decide +kernel
theorem dX10_sit_31 : decode cX10_sit 31 = .ok (.aload_n 0, 1) := by decide +kernel
theorem dX10_sit_32 : decode cX10_sit 32 = .ok (.getfield 29, 3) := by decide +kernel
theorem dX10_sit_35 : decode cX10_sit 35 = .ok (.aload_n 0, 1) := by decide +kernel
theorem dX10_sit_36 : decode cX10_sit 36 = .ok (.getfield 19, 3) := by decide +kernel
theorem dX10_sit_39 : decode cX10_sit 39 = .ok (.invokevirtual 242, 3) := by decide +kernel
theorem dX10_sit_42 : decode cX10_sit 42 = .ok (.aload_n 0, 1) := by decide +kernel
theorem dX10_sit_43 : decode cX10_sit 43 = .ok (.getfield 19, 3) := by decide +kernel
theorem dX10_sit_46 : decode cX10_sit 46 = .ok (.getfield 91, 3) := by decide +kernel
theorem dX10_sit_49 : decode cX10_sit 49 = .ok (.getfield 142, 3) := by decide +kernel
theorem dX10_sit_52 : decode cX10_sit 52 = .ok (.iload_n 1, 1) := by decide +kernel
theorem dX10_sit_53 : decode cX10_sit 53 = .ok (.iaload, 1) := by decide +kernel
theorem dX10_sit_54 : decode cX10_sit 54 = .ok (.istore_n 3, 1) := by decide +kernel
theorem dX10_sit_55 : decode cX10_sit 55 = .ok (.aload_n 0, 1) := by decide +kernel
theorem dX10_sit_56 : decode cX10_sit 56 = .ok (.getfield 19, 3) := by decide +kernel
theorem dX10_sit_59 : decode cX10_sit 59 = .ok (.getfield 91, 3) := by decide +kernel
theorem dX10_sit_62 : decode cX10_sit 62 = .ok (.getfield 142, 3) := by decide +kernel
theorem dX10_sit_65 : decode cX10_sit 65 = .ok (.iload_n 1, 1) := by decide +kernel
theorem dX10_sit_66 : decode cX10_sit 66 = .ok (.iload_n 2, 1) := by decide +kernel
theorem dX10_sit_67 : decode cX10_sit 67 = .ok (.iastore, 1) := by decide +kernel
theorem dX10_sit_68 : decode cX10_sit 68 = .ok (.iload_n 3, 1) := by decide +kernel
theorem dX10_sit_69 : decode cX10_sit 69 = .ok (.ireturn, 1) := by decide +kernel
theorem dX10_give_0 : decode cX10_give 0 = .ok (.aload_n 0, 1) := by decide +kernel
theorem dX10_give_1 : decode cX10_give 1 = .ok (.iload_n 1, 1) := by decide +kernel
theorem dX10_give_2 : decode cX10_give 2 = .ok (.invokevirtual 132, 3) := by decide +kernel
theorem dX10_give_5 : decode cX10_give 5 = .ok (.aload_n 0, 1) := by decide +kernel
theorem dX10_give_6 : decode cX10_give 6 = .ok (.iload_n 2, 1) := by decide +kernel
theorem dX10_give_7 : decode cX10_give 7 = .ok (.invokevirtual 132, 3) := by decide +kernel
theorem dX10_give_10 : decode cX10_give 10 = .ok (.iload_n 3, 1) := by decide +kernel
theorem dX10_give_11 : decode cX10_give 11 = .ok (.iload 4, 2) := by decide +kernel
theorem dX10_give_13 : decode cX10_give 13 = .ok (.invokestatic 214, 3) := by decide +kernel
theorem dX10_give_16 : decode cX10_give 16 = .ok (.aload_n 0, 1) := by decide +kernel
theorem dX10_give_17 : decode cX10_give 17 = .ok (.getfield 29, 3) := by decide +kernel
theorem dX10_give_20 : decode cX10_give 20 = .ok (.aload_n 0, 1) := by decide +kernel
theorem dX10_give_21 : decode cX10_give 21 = .ok (.getfield 19, 3) := by decide +kernel
theorem dX10_give_24 : decode cX10_give 24 = .ok (.invokevirtual 242, 3) := by decide +kernel
theorem dX10_give_27 : decode cX10_give 27 = .ok (.aload_n 0, 1) := by decide +kernel
theorem dX10_give_28 : decode cX10_give 28 = .ok (.getfield 19, 3) := by decide +kernel
theorem dX10_give_31 : decode cX10_give 31 = .ok (.iload_n 1, 1) := by decide +kernel
theorem dX10_give_32 : decode cX10_give 32 = .ok (.iload_n 2, 1) := by decide +kernel
theorem dX10_give_33 : decode cX10_give 33 = .ok (.iload_n 3, 1) := by decide +kernel
theorem dX10_give_34 : decode cX10_give 34 = .ok (.iload 4, 2) := by decide +kernel
theorem dX10_give_36 : decode cX10_give 36 = .ok (.invokevirtual 256, 3) := by decide +kernel
theorem dX10_give_39 : decode cX10_give 39 = .ok (.istore 5, 2) := by decide +kernel
theorem dX10_give_41 : decode cX10_give 41 = .ok (.iload 5, 2) := by decide +kernel
theorem dX10_give_43 : decode cX10_give 43 = .ok (.ifCond .ne 28, 3) := by decide +kernel
theorem dX10_give_46 : decode cX10_give 46 = .ok (.aload_n 0, 1) := by decide +kernel
theorem dX10_give_47 : decode cX10_give 47 = .ok (.getfield 19, 3) := by decide +kernel
theorem dX10_give_50 : decode cX10_give 50 = .ok (.getfield 100, 3) := by decide +kernel
theorem dX10_give_53 : decode cX10_give 53 = .ok (.iload_n 1, 1) := by decide +kernel
theorem dX10_give_54 : decode cX10_give 54 = .ok (.iload_n 2, 1) := by decide +kernel
theorem dX10_give_55 : decode cX10_give 55 = .ok (.iload_n 3, 1) := by decide +kernel
theorem dX10_give_56 : decode cX10_give 56 = .ok (.iload 4, 2) := by decide +kernel
theorem dX10_give_58 : decode cX10_give 58 = .ok (.aload_n 0, 1) := by decide +kernel
theorem dX10_give_59 : decode cX10_give 59 = .ok (.getfield 19, 3) := by decide +kernel
theorem dX10_give_62 : decode cX10_give 62 = .ok (.getfield 111, 3) := by decide +kernel
theorem dX10_give_65 : decode cX10_give 65 = .ok (.invokevirtual 260, 3) := by decide +kernel
theorem dX10_give_68 : decode cX10_give 68 = .ok (.goto 16, 3) := by decide +kernel
theorem dX10_give_71 : decode cX10_give 71 = .ok (.aload_n 0, 1) := by decide +kernel
theorem dX10_give_72 : decode cX10_give 72 = .ok (.getfield 19, 3) := by decide +kernel
theorem dX10_give_75 : decode cX10_give 75 = .ok (.dup, 1) := by decide +kernel
theorem dX10_give_76 : decode cX10_give 76 = .ok (.getfield 123, 3) := by decide +kernel
theorem dX10_give_79 : decode cX10_give 79 = .ok (.iconst 1, 1) := by decide +kernel
theorem dX10_give_80 : decode cX10_give 80 = .ok (.iadd, 1) := by decide +kernel
theorem dX10_give_81 : decode cX10_give 81 = .ok (.putfield 123, 3) := by decide +kernel
theorem dX10_give_84 : decode cX10_give 84 = .ok (.iload 5, 2) := by decide +kernel
theorem dX10_give_86 : decode cX10_give 86 = .ok (.ireturn, 1) := by decide +kernel
theorem dX10_call_0 : decode cX10_call 0 = .ok (.iload_n 1, 1) := by decide +kernel
theorem dX10_call_1 : decode cX10_call 1 = .ok (.invokestatic 211, 3) := by decide +kernel
theorem dX10_call_4 : decode cX10_call 4 = .ok (.iload_n 2, 1) := by decide +kernel
theorem dX10_call_5 : decode cX10_call 5 = .ok (.iload_n 3, 1) := by decide +kernel
theorem dX10_call_6 : decode cX10_call 6 = .ok (.invokestatic 214, 3) := by decide +kernel
theorem dX10_call_9 : decode cX10_call 9 = .ok (.aload_n 0, 1) := by decide +kernel
theorem dX10_call_10 : decode cX10_call 10 = .ok (.getfield 29, 3) := by decide +kernel
theorem dX10_call_13 : decode cX10_call 13 = .ok (.aload_n 0, 1) := by decide +kernel
theorem dX10_call_14 : decode cX10_call 14 = .ok (.getfield 19, 3) := by decide +kernel
theorem dX10_call_17 : decode cX10_call 17 = .ok (.invokevirtual 242, 3) := by decide +kernel
theorem dX10_call_20 : decode cX10_call 20 = .ok (.aload_n 0, 1) := by decide +kernel
theorem dX10_call_21 : decode cX10_call 21 = .ok (.getfield 19, 3) := by decide +kernel
theorem dX10_call_24 : decode cX10_call 24 = .ok (.iload_n 1, 1) := by decide +kernel
theorem dX10_call_25 : decode cX10_call 25 = .ok (.iload_n 2, 1) := by decide +kernel
theorem dX10_call_26 : decode cX10_call 26 = .ok (.iload_n 3, 1) := by decide +kernel
theorem dX10_call_27 : decode cX10_call 27 = .ok (.invokevirtual 263, 3) := by decide +kernel
theorem dX10_call_30 : decode cX10_call 30 = .ok (.istore 4, 2) := by decide +kernel
theorem dX10_call_32 : decode cX10_call 32 = .ok (.iload 4, 2) := by decide +kernel
theorem dX10_call_34 : decode cX10_call 34 = .ok (.iconst (-1), 1) := by decide +kernel
theorem dX10_call_35 : decode cX10_call 35 = .ok (.if_icmp .ne 16, 3) := by decide +kernel
theorem dX10_call_38 : decode cX10_call 38 = .ok (.aload_n 0, 1) := by decide +kernel
theorem dX10_call_39 : decode cX10_call 39 = .ok (.getfield 19, 3) := by decide +kernel
theorem dX10_call_42 : decode cX10_call 42 = .ok (.dup, 1) := by decide +kernel
theorem dX10_call_43 : decode cX10_call 43 = .ok (.getfield 120, 3) := by decide +kernel
theorem dX10_call_46 : decode cX10_call 46 = .ok (.iconst 1, 1) := by decide +kernel
theorem dX10_call_47 : decode cX10_call 47 = .ok (.iadd, 1) := by decide +kernel
theorem dX10_call_48 : decode cX10_call 48 = .ok (.putfield 120, 3) := by decide +kernel
theorem dX10_call_51 : decode cX10_call 51 = .ok (.iload 4, 2) := by decide +kernel
theorem dX10_call_53 : decode cX10_call 53 = .ok (.ireturn, 1) := by decide +kernel
theorem dX10_years_0 : decode cX10_years 0 = .ok (.iload_n 1, 1) := by decide +kernel
theorem dX10_years_1 : decode cX10_years 1 = .ok (.invokestatic 266, 3) := by decide +kernel
theorem dX10_years_4 : decode cX10_years 4 = .ok (.ifCond .ne 14, 3) := by decide +kernel
theorem dX10_years_7 : decode cX10_years 7 = .ok (.new 47, 3) := by decide +kernel
theorem dX10_years_10 : decode cX10_years 10 = .ok (.dup, 1) := by decide +kernel
theorem dX10_years_11 : decode cX10_years 11 = .ok (.ldc_w 269, 3) := by decide +kernel
theorem dX10_years_14 : decode cX10_years 14 = .ok (.invokespecial 51, 3) := by decide +kernel
theorem dX10_years_17 : decode cX10_years 17 = .ok (.athrow, 1) := by decide +kernel
theorem dX10_years_18 : decode cX10_years 18 = .ok (.aload_n 0, 1) := by decide +kernel
theorem dX10_years_19 : decode cX10_years 19 = .ok (.getfield 19, 3) := by decide +kernel
theorem dX10_years_22 : decode cX10_years 22 = .ok (.getfield 111, 3) := by decide +kernel
theorem dX10_years_25 : decode cX10_years 25 = .ok (.iload_n 1, 1) := by decide +kernel
theorem dX10_years_26 : decode cX10_years 26 = .ok (.iadd, 1) := by decide +kernel
theorem dX10_years_27 : decode cX10_years 27 = .ok (.sipush 999, 3) := by decide +kernel
theorem dX10_years_30 : decode cX10_years 30 = .ok (.if_icmp .le 14, 3) := by decide +kernel
theorem dX10_years_33 : decode cX10_years 33 = .ok (.new 58, 3) := by decide +kernel
theorem dX10_years_36 : decode cX10_years 36 = .ok (.dup, 1) := by decide +kernel
theorem dX10_years_37 : decode cX10_years 37 = .ok (.ldc_w 271, 3) := by decide +kernel
theorem dX10_years_40 : decode cX10_years 40 = .ok (.invokespecial 62, 3) := by decide +kernel
theorem dX10_years_43 : decode cX10_years 43 = .ok (.athrow, 1) := by decide +kernel
theorem dX10_years_44 : decode cX10_years 44 = .ok (.aload_n 0, 1) := by decide +kernel
theorem dX10_years_45 : decode cX10_years 45 = .ok (.getfield 29, 3) := by decide +kernel
theorem dX10_years_48 : decode cX10_years 48 = .ok (.aload_n 0, 1) := by decide +kernel
theorem dX10_years_49 : decode cX10_years 49 = .ok (.getfield 19, 3) := by decide +kernel
theorem dX10_years_52 : decode cX10_years 52 = .ok (.invokevirtual 242, 3) := by decide +kernel
theorem dX10_years_55 : decode cX10_years 55 = .ok (.aload_n 0, 1) := by decide +kernel
theorem dX10_years_56 : decode cX10_years 56 = .ok (.getfield 19, 3) := by decide +kernel
theorem dX10_years_59 : decode cX10_years 59 = .ok (.iload_n 1, 1) := by decide +kernel
theorem dX10_years_60 : decode cX10_years 60 = .ok (.invokevirtual 273, 3) := by decide +kernel
theorem dX10_years_63 : decode cX10_years 63 = .ok (.ireturn, 1) := by decide +kernel
theorem dX10_set_0 : decode cX10_set 0 = .ok (.iload_n 1, 1) := by decide +kernel
theorem dX10_set_1 : decode cX10_set 1 = .ok (.iload_n 2, 1) := by decide +kernel
theorem dX10_set_2 : decode cX10_set 2 = .ok (.invokestatic 276, 3) := by decide +kernel
theorem dX10_set_5 : decode cX10_set 5 = .ok (.ifCond .ne 14, 3) := by decide +kernel
theorem dX10_set_8 : decode cX10_set 8 = .ok (.new 47, 3) := by decide +kernel
theorem dX10_set_11 : decode cX10_set 11 = .ok (.dup, 1) := by decide +kernel
theorem dX10_set_12 : decode cX10_set 12 = .ok (.ldc_w 279, 3) := by decide +kernel
theorem dX10_set_15 : decode cX10_set 15 = .ok (.invokespecial 51, 3) := by decide +kernel
theorem dX10_set_18 : decode cX10_set 18 = .ok (.athrow, 1) := by decide +kernel
theorem dX10_set_19 : decode cX10_set 19 = .ok (.aload_n 0, 1) := by decide +kernel
theorem dX10_set_20 : decode cX10_set 20 = .ok (.getfield 29, 3) := by decide +kernel
theorem dX10_set_23 : decode cX10_set 23 = .ok (.aload_n 0, 1) := by decide +kernel
theorem dX10_set_24 : decode cX10_set 24 = .ok (.getfield 19, 3) := by decide +kernel
theorem dX10_set_27 : decode cX10_set 27 = .ok (.invokevirtual 242, 3) := by decide +kernel
theorem dX10_set_30 : decode cX10_set 30 = .ok (.aload_n 0, 1) := by decide +kernel
theorem dX10_set_31 : decode cX10_set 31 = .ok (.getfield 19, 3) := by decide +kernel
theorem dX10_set_34 : decode cX10_set 34 = .ok (.getfield 126, 3) := by decide +kernel
theorem dX10_set_37 : decode cX10_set 37 = .ok (.iload_n 1, 1) := by decide +kernel
theorem dX10_set_38 : decode cX10_set 38 = .ok (.iaload, 1) := by decide +kernel
theorem dX10_set_39 : decode cX10_set 39 = .ok (.istore_n 3, 1) := by decide +kernel
theorem dX10_set_40 : decode cX10_set 40 = .ok (.aload_n 0, 1) := by decide +kernel
theorem dX10_set_41 : decode cX10_set 41 = .ok (.getfield 19, 3) := by decide +kernel
theorem dX10_set_44 : decode cX10_set 44 = .ok (.getfield 126, 3) := by decide +kernel
theorem dX10_set_47 : decode cX10_set 47 = .ok (.iload_n 1, 1) := by decide +kernel
theorem dX10_set_48 : decode cX10_set 48 = .ok (.iload_n 2, 1) := by decide +kernel
theorem dX10_set_49 : decode cX10_set 49 = .ok (.iastore, 1) := by decide +kernel
theorem dX10_set_50 : decode cX10_set 50 = .ok (.iload_n 3, 1) := by decide +kernel
theorem dX10_set_51 : decode cX10_set 51 = .ok (.ireturn, 1) := by decide +kernel
theorem dX10_undo_0 : decode cX10_undo 0 = .ok (.aload_n 0, 1) := by decide +kernel
theorem dX10_undo_1 : decode cX10_undo 1 = .ok (.getfield 29, 3) := by decide +kernel
theorem dX10_undo_4 : decode cX10_undo 4 = .ok (.getfield 281, 3) := by decide +kernel
theorem dX10_undo_7 : decode cX10_undo 7 = .ok (.ifCond .ne 14, 3) := by decide +kernel
theorem dX10_undo_10 : decode cX10_undo 10 = .ok (.new 58, 3) := by decide +kernel
theorem dX10_undo_13 : decode cX10_undo 13 = .ok (.dup, 1) := by decide +kernel
theorem dX10_undo_14 : decode cX10_undo 14 = .ok (.ldc_w 282, 3) := by decide +kernel
theorem dX10_undo_17 : decode cX10_undo 17 = .ok (.invokespecial 62, 3) := by decide +kernel
theorem dX10_undo_20 : decode cX10_undo 20 = .ok (.athrow, 1) := by decide +kernel
theorem dX10_undo_21 : decode cX10_undo 21 = .ok (.aload_n 0, 1) := by decide +kernel
theorem dX10_undo_22 : decode cX10_undo 22 = .ok (.getfield 29, 3) := by decide +kernel
theorem dX10_undo_25 : decode cX10_undo 25 = .ok (.aload_n 0, 1) := by decide +kernel
theorem dX10_undo_26 : decode cX10_undo 26 = .ok (.getfield 19, 3) := by decide +kernel
theorem dX10_undo_29 : decode cX10_undo 29 = .ok (.invokevirtual 284, 3) := by decide +kernel
theorem dX10_undo_32 : decode cX10_undo 32 = .ok (.aload_n 0, 1) := by decide +kernel
theorem dX10_undo_33 : decode cX10_undo 33 = .ok (.getfield 29, 3) := by decide +kernel
theorem dX10_undo_36 : decode cX10_undo 36 = .ok (.getfield 281, 3) := by decide +kernel
theorem dX10_undo_39 : decode cX10_undo 39 = .ok (.ireturn, 1) := by decide +kernel
theorem dX10_why_0 : decode cX10_why 0 = .ok (.aload_n 0, 1) := by decide +kernel
theorem dX10_why_1 : decode cX10_why 1 = .ok (.iload_n 1, 1) := by decide +kernel
theorem dX10_why_2 : decode cX10_why 2 = .ok (.invokevirtual 132, 3) := by decide +kernel
theorem dX10_why_5 : decode cX10_why 5 = .ok (.aload_n 0, 1) := by decide +kernel
theorem dX10_why_6 : decode cX10_why 6 = .ok (.iload_n 2, 1) := by decide +kernel
theorem dX10_why_7 : decode cX10_why 7 = .ok (.invokevirtual 132, 3) := by decide +kernel
theorem dX10_why_10 : decode cX10_why 10 = .ok (.iload_n 3, 1) := by decide +kernel
theorem dX10_why_11 : decode cX10_why 11 = .ok (.iload 4, 2) := by decide +kernel
theorem dX10_why_13 : decode cX10_why 13 = .ok (.invokestatic 214, 3) := by decide +kernel
theorem dX10_why_16 : decode cX10_why 16 = .ok (.aload_n 0, 1) := by decide +kernel
theorem dX10_why_17 : decode cX10_why 17 = .ok (.getfield 19, 3) := by decide +kernel
theorem dX10_why_20 : decode cX10_why 20 = .ok (.iload_n 1, 1) := by decide +kernel
theorem dX10_why_21 : decode cX10_why 21 = .ok (.iload_n 2, 1) := by decide +kernel
theorem dX10_why_22 : decode cX10_why 22 = .ok (.iload_n 3, 1) := by decide +kernel
theorem dX10_why_23 : decode cX10_why 23 = .ok (.iload 4, 2) := by decide +kernel
theorem dX10_why_25 : decode cX10_why 25 = .ok (.invokevirtual 256, 3) := by decide +kernel
theorem dX10_why_28 : decode cX10_why 28 = .ok (.ireturn, 1) := by decide +kernel
theorem dX10_endsIn_0 : decode cX10_endsIn 0 = .ok (.aload_n 0, 1) := by decide +kernel
theorem dX10_endsIn_1 : decode cX10_endsIn 1 = .ok (.iload_n 1, 1) := by decide +kernel
theorem dX10_endsIn_2 : decode cX10_endsIn 2 = .ok (.invokevirtual 165, 3) := by decide +kernel
theorem dX10_endsIn_5 : decode cX10_endsIn 5 = .ok (.aload_n 0, 1) := by decide +kernel
theorem dX10_endsIn_6 : decode cX10_endsIn 6 = .ok (.getfield 19, 3) := by decide +kernel
theorem dX10_endsIn_9 : decode cX10_endsIn 9 = .ok (.iload_n 1, 1) := by decide +kernel
theorem dX10_endsIn_10 : decode cX10_endsIn 10 = .ok (.invokevirtual 287, 3) := by decide +kernel
theorem dX10_endsIn_13 : decode cX10_endsIn 13 = .ok (.ireturn, 1) := by decide +kernel
theorem dX10_bestName_0 : decode cX10_bestName 0 = .ok (.aload_n 0, 1) := by decide +kernel
theorem dX10_bestName_1 : decode cX10_bestName 1 = .ok (.iload_n 1, 1) := by decide +kernel
theorem dX10_bestName_2 : decode cX10_bestName 2 = .ok (.invokevirtual 132, 3) := by decide +kernel
theorem dX10_bestName_5 : decode cX10_bestName 5 = .ok (.aload_n 0, 1) := by decide +kernel
theorem dX10_bestName_6 : decode cX10_bestName 6 = .ok (.iload_n 2, 1) := by decide +kernel
theorem dX10_bestName_7 : decode cX10_bestName 7 = .ok (.invokevirtual 132, 3) := by decide +kernel
theorem dX10_bestName_10 : decode cX10_bestName 10 = .ok (.iload_n 3, 1) := by decide +kernel
theorem dX10_bestName_11 : decode cX10_bestName 11 = .ok (.iconst 1, 1) := by decide +kernel
theorem dX10_bestName_12 : decode cX10_bestName 12 = .ok (.if_icmp .eq 19, 3) := by decide +kernel
theorem dX10_bestName_15 : decode cX10_bestName 15 = .ok (.iload_n 3, 1) := by decide +kernel
theorem dX10_bestName_16 : decode cX10_bestName 16 = .ok (.iconst 2, 1) := by decide +kernel
theorem dX10_bestName_17 : decode cX10_bestName 17 = .ok (.if_icmp .eq 14, 3) := by decide +kernel
theorem dX10_bestName_20 : decode cX10_bestName 20 = .ok (.new 47, 3) := by decide +kernel
theorem dX10_bestName_23 : decode cX10_bestName 23 = .ok (.dup, 1) := by decide +kernel
theorem dX10_bestName_24 : decode cX10_bestName 24 = .ok (.ldc_w 290, 3) := by decide +kernel
theorem dX10_bestName_27 : decode cX10_bestName 27 = .ok (.invokespecial 51, 3) := by decide +kernel
theorem dX10_bestName_30 : decode cX10_bestName 30 = .ok (.athrow, 1) := by decide +kernel
theorem dX10_bestName_31 : decode cX10_bestName 31 = .ok (.aload_n 0, 1) := by decide +kernel
theorem dX10_bestName_32 : decode cX10_bestName 32 = .ok (.getfield 43, 3) := by decide +kernel
theorem dX10_bestName_35 : decode cX10_bestName 35 = .ok (.aload_n 0, 1) := by decide +kernel
theorem dX10_bestName_36 : decode cX10_bestName 36 = .ok (.getfield 19, 3) := by decide +kernel
theorem dX10_bestName_39 : decode cX10_bestName 39 = .ok (.iload_n 1, 1) := by decide +kernel
theorem dX10_bestName_40 : decode cX10_bestName 40 = .ok (.iload_n 2, 1) := by decide +kernel
theorem dX10_bestName_41 : decode cX10_bestName 41 = .ok (.iload_n 3, 1) := by decide +kernel
theorem dX10_bestName_42 : decode cX10_bestName 42 = .ok (.invokevirtual 292, 3) := by decide +kernel
theorem dX10_bestName_45 : decode cX10_bestName 45 = .ok (.ireturn, 1) := by decide +kernel
theorem dX10_bestGiver_0 : decode cX10_bestGiver 0 = .ok (.iconst (-1), 1) := by decide +kernel
theorem dX10_bestGiver_1 : decode cX10_bestGiver 1 = .ok (.istore_n 1, 1) := by decide +kernel
theorem dX10_bestGiver_2 : decode cX10_bestGiver 2 = .ok (.iconst 0, 1) := by decide +kernel
theorem dX10_bestGiver_3 : decode cX10_bestGiver 3 = .ok (.istore_n 2, 1) := by decide +kernel
theorem dX10_bestGiver_4 : decode cX10_bestGiver 4 = .ok (.iload_n 2, 1) := by decide +kernel
theorem dX10_bestGiver_5 : decode cX10_bestGiver 5 = .ok (.aload_n 0, 1) := by decide +kernel
theorem dX10_bestGiver_6 : decode cX10_bestGiver 6 = .ok (.getfield 19, 3) := by decide +kernel
theorem dX10_bestGiver_9 : decode cX10_bestGiver 9 = .ok (.getfield 91, 3) := by decide +kernel
theorem dX10_bestGiver_12 : decode cX10_bestGiver 12 = .ok (.getfield 95, 3) := by decide +kernel
theorem dX10_bestGiver_15 : decode cX10_bestGiver 15 = .ok (.if_icmp .ge 45, 3) := by decide +kernel
theorem dX10_bestGiver_18 : decode cX10_bestGiver 18 = .ok (.aload_n 0, 1) := by decide +kernel
theorem dX10_bestGiver_19 : decode cX10_bestGiver 19 = .ok (.getfield 19, 3) := by decide +kernel
theorem dX10_bestGiver_22 : decode cX10_bestGiver 22 = .ok (.getfield 100, 3) := by decide +kernel
theorem dX10_bestGiver_25 : decode cX10_bestGiver 25 = .ok (.iload_n 2, 1) := by decide +kernel
theorem dX10_bestGiver_26 : decode cX10_bestGiver 26 = .ok (.invokevirtual 151, 3) := by decide +kernel
theorem dX10_bestGiver_29 : decode cX10_bestGiver 29 = .ok (.ifCond .le 25, 3) := by decide +kernel
theorem dX10_bestGiver_32 : decode cX10_bestGiver 32 = .ok (.iload_n 1, 1) := by decide +kernel
theorem dX10_bestGiver_33 : decode cX10_bestGiver 33 = .ok (.iconst (-1), 1) := by decide +kernel
theorem dX10_bestGiver_34 : decode cX10_bestGiver 34 = .ok (.if_icmp .eq 18, 3) := by decide +kernel
theorem dX10_bestGiver_37 : decode cX10_bestGiver 37 = .ok (.aload_n 0, 1) := by decide +kernel
theorem dX10_bestGiver_38 : decode cX10_bestGiver 38 = .ok (.getfield 19, 3) := by decide +kernel
theorem dX10_bestGiver_41 : decode cX10_bestGiver 41 = .ok (.getfield 100, 3) := by decide +kernel
theorem dX10_bestGiver_44 : decode cX10_bestGiver 44 = .ok (.iload_n 2, 1) := by decide +kernel
theorem dX10_bestGiver_45 : decode cX10_bestGiver 45 = .ok (.iload_n 1, 1) := by decide +kernel
theorem dX10_bestGiver_46 : decode cX10_bestGiver 46 = .ok (.invokevirtual 296, 3) := by decide +kernel
theorem dX10_bestGiver_49 : decode cX10_bestGiver 49 = .ok (.ifCond .eq 5, 3) := by decide +kernel
theorem dX10_bestGiver_52 : decode cX10_bestGiver 52 = .ok (.iload_n 2, 1) := by decide +kernel
theorem dX10_bestGiver_53 : decode cX10_bestGiver 53 = .ok (.istore_n 1, 1) := by decide +kernel
theorem dX10_bestGiver_54 : decode cX10_bestGiver 54 = .ok (.iinc 2 1, 3) := by decide +kernel
theorem dX10_bestGiver_57 : decode cX10_bestGiver 57 = .ok (.goto (-53), 3) := by decide +kernel
theorem dX10_bestGiver_60 : decode cX10_bestGiver 60 = .ok (.iload_n 1, 1) := by decide +kernel
theorem dX10_bestGiver_61 : decode cX10_bestGiver 61 = .ok (.ireturn, 1) := by decide +kernel
theorem dX10_mixed_0 : decode cX10_mixed 0 = .ok (.iconst (-1), 1) := by decide +kernel
theorem dX10_mixed_1 : decode cX10_mixed 1 = .ok (.istore_n 1, 1) := by decide +kernel
theorem dX10_mixed_2 : decode cX10_mixed 2 = .ok (.iconst 0, 1) := by decide +kernel
theorem dX10_mixed_3 : decode cX10_mixed 3 = .ok (.istore_n 2, 1) := by decide +kernel
theorem dX10_mixed_4 : decode cX10_mixed 4 = .ok (.iload_n 2, 1) := by decide +kernel
theorem dX10_mixed_5 : decode cX10_mixed 5 = .ok (.aload_n 0, 1) := by decide +kernel
theorem dX10_mixed_6 : decode cX10_mixed 6 = .ok (.getfield 19, 3) := by decide +kernel
theorem dX10_mixed_9 : decode cX10_mixed 9 = .ok (.getfield 91, 3) := by decide +kernel
theorem dX10_mixed_12 : decode cX10_mixed 12 = .ok (.getfield 95, 3) := by decide +kernel
theorem dX10_mixed_15 : decode cX10_mixed 15 = .ok (.if_icmp .ge 47, 3) := by decide +kernel
theorem dX10_mixed_18 : decode cX10_mixed 18 = .ok (.aload_n 0, 1) := by decide +kernel
theorem dX10_mixed_19 : decode cX10_mixed 19 = .ok (.getfield 19, 3) := by decide +kernel
theorem dX10_mixed_22 : decode cX10_mixed 22 = .ok (.getfield 91, 3) := by decide +kernel
theorem dX10_mixed_25 : decode cX10_mixed 25 = .ok (.getfield 157, 3) := by decide +kernel
theorem dX10_mixed_28 : decode cX10_mixed 28 = .ok (.iload_n 2, 1) := by decide +kernel
theorem dX10_mixed_29 : decode cX10_mixed 29 = .ok (.iaload, 1) := by decide +kernel
theorem dX10_mixed_30 : decode cX10_mixed 30 = .ok (.iload_n 1, 1) := by decide +kernel
theorem dX10_mixed_31 : decode cX10_mixed 31 = .ok (.iconst (-1), 1) := by decide +kernel
theorem dX10_mixed_32 : decode cX10_mixed 32 = .ok (.if_icmp .ne 7, 3) := by decide +kernel
theorem dX10_mixed_35 : decode cX10_mixed 35 = .ok (.iconst 0, 1) := by decide +kernel
theorem dX10_mixed_36 : decode cX10_mixed 36 = .ok (.goto 15, 3) := by decide +kernel
theorem dX10_mixed_39 : decode cX10_mixed 39 = .ok (.aload_n 0, 1) := by decide +kernel
theorem dX10_mixed_40 : decode cX10_mixed 40 = .ok (.getfield 19, 3) := by decide +kernel
theorem dX10_mixed_43 : decode cX10_mixed 43 = .ok (.getfield 91, 3) := by decide +kernel
theorem dX10_mixed_46 : decode cX10_mixed 46 = .ok (.getfield 157, 3) := by decide +kernel
theorem dX10_mixed_49 : decode cX10_mixed 49 = .ok (.iload_n 1, 1) := by decide +kernel
theorem dX10_mixed_50 : decode cX10_mixed 50 = .ok (.iaload, 1) := by decide +kernel
theorem dX10_mixed_51 : decode cX10_mixed 51 = .ok (.if_icmp .le 5, 3) := by decide +kernel
theorem dX10_mixed_54 : decode cX10_mixed 54 = .ok (.iload_n 2, 1) := by decide +kernel
theorem dX10_mixed_55 : decode cX10_mixed 55 = .ok (.istore_n 1, 1) := by decide +kernel
theorem dX10_mixed_56 : decode cX10_mixed 56 = .ok (.iinc 2 1, 3) := by decide +kernel
theorem dX10_mixed_59 : decode cX10_mixed 59 = .ok (.goto (-55), 3) := by decide +kernel
theorem dX10_mixed_62 : decode cX10_mixed 62 = .ok (.iload_n 1, 1) := by decide +kernel
theorem dX10_mixed_63 : decode cX10_mixed 63 = .ok (.ireturn, 1) := by decide +kernel
theorem dX10_runScript_0 : decode cX10_runScript 0 = .ok (.iload_n 1, 1) := by decide +kernel
theorem dX10_runScript_1 : decode cX10_runScript 1 = .ok (.iconst 1, 1) := by decide +kernel
theorem dX10_runScript_2 : decode cX10_runScript 2 = .ok (.if_icmp .lt 8, 3) := by decide +kernel
theorem dX10_runScript_5 : decode cX10_runScript 5 = .ok (.iload_n 1, 1) := by decide +kernel
theorem dX10_runScript_6 : decode cX10_runScript 6 = .ok (.iconst 3, 1) := by decide +kernel
theorem dX10_runScript_7 : decode cX10_runScript 7 = .ok (.if_icmp .le 14, 3) := by decide +kernel
theorem dX10_runScript_10 : decode cX10_runScript 10 = .ok (.new 47, 3) := by decide +kernel
theorem dX10_runScript_13 : decode cX10_runScript 13 = .ok (.dup, 1) := by decide +kernel
theorem dX10_runScript_14 : decode cX10_runScript 14 = .ok (.ldc_w 299, 3) := by decide +kernel
theorem dX10_runScript_17 : decode cX10_runScript 17 = .ok (.invokespecial 51, 3) := by decide +kernel
theorem dX10_runScript_20 : decode cX10_runScript 20 = .ok (.athrow, 1) := by decide +kernel
theorem dX10_runScript_21 : decode cX10_runScript 21 = .ok (.lload_n 2, 1) := by decide +kernel
theorem dX10_runScript_22 : decode cX10_runScript 22 = .ok (.lconst 0, 1) := by decide +kernel
theorem dX10_runScript_23 : decode cX10_runScript 23 = .ok (.lcmp, 1) := by decide +kernel
theorem dX10_runScript_24 : decode cX10_runScript 24 = .ok (.ifCond .lt 12, 3) := by decide +kernel
theorem dX10_runScript_27 : decode cX10_runScript 27 = .ok (.lload_n 2, 1) := by decide +kernel
theorem dX10_runScript_28 : decode cX10_runScript 28 = .ok (.iload_n 1, 1) := by decide +kernel
theorem dX10_runScript_29 : decode cX10_runScript 29 = .ok (.invokestatic 301, 3) := by decide +kernel
theorem dX10_runScript_32 : decode cX10_runScript 32 = .ok (.lcmp, 1) := by decide +kernel
theorem dX10_runScript_33 : decode cX10_runScript 33 = .ok (.ifCond .lt 14, 3) := by decide +kernel
theorem dX10_runScript_36 : decode cX10_runScript 36 = .ok (.new 47, 3) := by decide +kernel
theorem dX10_runScript_39 : decode cX10_runScript 39 = .ok (.dup, 1) := by decide +kernel
theorem dX10_runScript_40 : decode cX10_runScript 40 = .ok (.ldc_w 307, 3) := by decide +kernel
theorem dX10_runScript_43 : decode cX10_runScript 43 = .ok (.invokespecial 51, 3) := by decide +kernel
theorem dX10_runScript_46 : decode cX10_runScript 46 = .ok (.athrow, 1) := by decide +kernel
theorem dX10_runScript_47 : decode cX10_runScript 47 = .ok (.aload_n 0, 1) := by decide +kernel
theorem dX10_runScript_48 : decode cX10_runScript 48 = .ok (.getfield 23, 3) := by decide +kernel
theorem dX10_runScript_51 : decode cX10_runScript 51 = .ok (.aload_n 0, 1) := by decide +kernel
theorem dX10_runScript_52 : decode cX10_runScript 52 = .ok (.getfield 19, 3) := by decide +kernel
theorem dX10_runScript_55 : decode cX10_runScript 55 = .ok (.invokevirtual 309, 3) := by decide +kernel
theorem dX10_runScript_58 : decode cX10_runScript 58 = .ok (.iconst 0, 1) := by decide +kernel
theorem dX10_runScript_59 : decode cX10_runScript 59 = .ok (.istore 4, 2) := by decide +kernel
theorem dX10_runScript_61 : decode cX10_runScript 61 = .ok (.iload 4, 2) := by decide +kernel
theorem dX10_runScript_63 : decode cX10_runScript 63 = .ok (.iload_n 1, 1) := by decide +kernel
theorem dX10_runScript_64 : decode cX10_runScript 64 = .ok (.if_icmp .ge 29, 3) := by decide +kernel
theorem dX10_runScript_67 : decode cX10_runScript 67 = .ok (.aload_n 0, 1) := by decide +kernel
theorem dX10_runScript_68 : decode cX10_runScript 68 = .ok (.getfield 23, 3) := by decide +kernel
theorem dX10_runScript_71 : decode cX10_runScript 71 = .ok (.lload_n 2, 1) := by decide +kernel
theorem dX10_runScript_72 : decode cX10_runScript 72 = .ok (.iload_n 1, 1) := by decide +kernel
theorem dX10_runScript_73 : decode cX10_runScript 73 = .ok (.iload 4, 2) := by decide +kernel
theorem dX10_runScript_75 : decode cX10_runScript 75 = .ok (.invokestatic 312, 3) := by decide +kernel
theorem dX10_runScript_78 : decode cX10_runScript 78 = .ok (.invokestatic 316, 3) := by decide +kernel
theorem dX10_runScript_81 : decode cX10_runScript 81 = .ok (.ifCond .ne 6, 3) := by decide +kernel
theorem dX10_runScript_84 : decode cX10_runScript 84 = .ok (.iload 4, 2) := by decide +kernel
theorem dX10_runScript_86 : decode cX10_runScript 86 = .ok (.ireturn, 1) := by decide +kernel
theorem dX10_runScript_87 : decode cX10_runScript 87 = .ok (.iinc 4 1, 3) := by decide +kernel
theorem dX10_runScript_90 : decode cX10_runScript 90 = .ok (.goto (-29), 3) := by decide +kernel
theorem dX10_runScript_93 : decode cX10_runScript 93 = .ok (.iconst (-1), 1) := by decide +kernel
theorem dX10_runScript_94 : decode cX10_runScript 94 = .ok (.ireturn, 1) := by decide +kernel
theorem dX10_simulate_0 : decode cX10_simulate 0 = .ok (.iload_n 3, 1) := by decide +kernel
theorem dX10_simulate_1 : decode cX10_simulate 1 = .ok (.iconst 1, 1) := by decide +kernel
theorem dX10_simulate_2 : decode cX10_simulate 2 = .ok (.if_icmp .lt 9, 3) := by decide +kernel
theorem dX10_simulate_5 : decode cX10_simulate 5 = .ok (.iload_n 3, 1) := by decide +kernel
theorem dX10_simulate_6 : decode cX10_simulate 6 = .ok (.bipush 60, 2) := by decide +kernel
theorem dX10_simulate_8 : decode cX10_simulate 8 = .ok (.if_icmp .le 14, 3) := by decide +kernel
theorem dX10_simulate_11 : decode cX10_simulate 11 = .ok (.new 47, 3) := by decide +kernel
theorem dX10_simulate_14 : decode cX10_simulate 14 = .ok (.dup, 1) := by decide +kernel
theorem dX10_simulate_15 : decode cX10_simulate 15 = .ok (.ldc_w 320, 3) := by decide +kernel
theorem dX10_simulate_18 : decode cX10_simulate 18 = .ok (.invokespecial 51, 3) := by decide +kernel
theorem dX10_simulate_21 : decode cX10_simulate 21 = .ok (.athrow, 1) := by decide +kernel
theorem dX10_simulate_22 : decode cX10_simulate 22 = .ok (.aload_n 0, 1) := by decide +kernel
theorem dX10_simulate_23 : decode cX10_simulate 23 = .ok (.getfield 23, 3) := by decide +kernel
theorem dX10_simulate_26 : decode cX10_simulate 26 = .ok (.aload_n 0, 1) := by decide +kernel
theorem dX10_simulate_27 : decode cX10_simulate 27 = .ok (.getfield 19, 3) := by decide +kernel
theorem dX10_simulate_30 : decode cX10_simulate 30 = .ok (.invokevirtual 309, 3) := by decide +kernel
theorem dX10_simulate_33 : decode cX10_simulate 33 = .ok (.lload_n 1, 1) := by decide +kernel
theorem dX10_simulate_34 : decode cX10_simulate 34 = .ok (.lstore 4, 2) := by decide +kernel
theorem dX10_simulate_36 : decode cX10_simulate 36 = .ok (.iconst 0, 1) := by decide +kernel
theorem dX10_simulate_37 : decode cX10_simulate 37 = .ok (.istore 6, 2) := by decide +kernel
theorem dX10_simulate_39 : decode cX10_simulate 39 = .ok (.iload 6, 2) := by decide +kernel
theorem dX10_simulate_41 : decode cX10_simulate 41 = .ok (.iload_n 3, 1) := by decide +kernel
theorem dX10_simulate_42 : decode cX10_simulate 42 = .ok (.if_icmp .ge 34, 3) := by decide +kernel
theorem dX10_simulate_45 : decode cX10_simulate 45 = .ok (.lload 4, 2) := by decide +kernel
theorem dX10_simulate_47 : decode cX10_simulate 47 = .ok (.ldc2_w 322, 3) := by decide +kernel
theorem dX10_simulate_50 : decode cX10_simulate 50 = .ok (.lmul, 1) := by decide +kernel
theorem dX10_simulate_51 : decode cX10_simulate 51 = .ok (.ldc2_w 324, 3) := by decide +kernel
theorem dX10_simulate_54 : decode cX10_simulate 54 = .ok (.ladd, 1) := by decide +kernel
theorem dX10_simulate_55 : decode cX10_simulate 55 = .ok (.lstore 4, 2) := by decide +kernel
theorem dX10_simulate_57 : decode cX10_simulate 57 = .ok (.aload_n 0, 1) := by decide +kernel
theorem dX10_simulate_58 : decode cX10_simulate 58 = .ok (.getfield 23, 3) := by decide +kernel
theorem dX10_simulate_61 : decode cX10_simulate 61 = .ok (.lload 4, 2) := by decide +kernel
theorem dX10_simulate_63 : decode cX10_simulate 63 = .ok (.bipush 33, 2) := by decide +kernel
theorem dX10_simulate_65 : decode cX10_simulate 65 = .ok (.lushr, 1) := by decide +kernel
theorem dX10_simulate_66 : decode cX10_simulate 66 = .ok (.l2i, 1) := by decide +kernel
theorem dX10_simulate_67 : decode cX10_simulate 67 = .ok (.invokestatic 326, 3) := by decide +kernel
theorem dX10_simulate_70 : decode cX10_simulate 70 = .ok (.iinc 6 1, 3) := by decide +kernel
theorem dX10_simulate_73 : decode cX10_simulate 73 = .ok (.goto (-34), 3) := by decide +kernel
theorem dX10_simulate_76 : decode cX10_simulate 76 = .ok (.sipush 10000, 3) := by decide +kernel
theorem dX10_simulate_79 : decode cX10_simulate 79 = .ok (.aload_n 0, 1) := by decide +kernel
theorem dX10_simulate_80 : decode cX10_simulate 80 = .ok (.getfield 23, 3) := by decide +kernel
theorem dX10_simulate_83 : decode cX10_simulate 83 = .ok (.getfield 100, 3) := by decide +kernel
theorem dX10_simulate_86 : decode cX10_simulate 86 = .ok (.invokevirtual 332, 3) := by decide +kernel
theorem dX10_simulate_89 : decode cX10_simulate 89 = .ok (.imul, 1) := by decide +kernel
theorem dX10_simulate_90 : decode cX10_simulate 90 = .ok (.bipush 100, 2) := by decide +kernel
theorem dX10_simulate_92 : decode cX10_simulate 92 = .ok (.aload_n 0, 1) := by decide +kernel
theorem dX10_simulate_93 : decode cX10_simulate 93 = .ok (.getfield 23, 3) := by decide +kernel
theorem dX10_simulate_96 : decode cX10_simulate 96 = .ok (.getfield 91, 3) := by decide +kernel
theorem dX10_simulate_99 : decode cX10_simulate 99 = .ok (.getfield 95, 3) := by decide +kernel
theorem dX10_simulate_102 : decode cX10_simulate 102 = .ok (.imul, 1) := by decide +kernel
theorem dX10_simulate_103 : decode cX10_simulate 103 = .ok (.iadd, 1) := by decide +kernel
theorem dX10_simulate_104 : decode cX10_simulate 104 = .ok (.aload_n 0, 1) := by decide +kernel
theorem dX10_simulate_105 : decode cX10_simulate 105 = .ok (.getfield 23, 3) := by decide +kernel
theorem dX10_simulate_108 : decode cX10_simulate 108 = .ok (.getfield 117, 3) := by decide +kernel
theorem dX10_simulate_111 : decode cX10_simulate 111 = .ok (.aload_n 0, 1) := by decide +kernel
theorem dX10_simulate_112 : decode cX10_simulate 112 = .ok (.getfield 19, 3) := by decide +kernel
theorem dX10_simulate_115 : decode cX10_simulate 115 = .ok (.getfield 117, 3) := by decide +kernel
theorem dX10_simulate_118 : decode cX10_simulate 118 = .ok (.isub, 1) := by decide +kernel
theorem dX10_simulate_119 : decode cX10_simulate 119 = .ok (.iadd, 1) := by decide +kernel
theorem dX10_simulate_120 : decode cX10_simulate 120 = .ok (.ireturn, 1) := by decide +kernel
theorem dX10_save_0 : decode cX10_save 0 = .ok (.iload_n 1, 1) := by decide +kernel
theorem dX10_save_1 : decode cX10_save 1 = .ok (.invokestatic 335, 3) := by decide +kernel
theorem dX10_save_4 : decode cX10_save 4 = .ok (.aload_n 0, 1) := by decide +kernel
theorem dX10_save_5 : decode cX10_save 5 = .ok (.getfield 36, 3) := by decide +kernel
theorem dX10_save_8 : decode cX10_save 8 = .ok (.getfield 338, 3) := by decide +kernel
theorem dX10_save_11 : decode cX10_save 11 = .ok (.iload_n 1, 1) := by decide +kernel
theorem dX10_save_12 : decode cX10_save 12 = .ok (.aaload, 1) := by decide +kernel
theorem dX10_save_13 : decode cX10_save 13 = .ok (.aload_n 0, 1) := by decide +kernel
theorem dX10_save_14 : decode cX10_save 14 = .ok (.getfield 19, 3) := by decide +kernel
theorem dX10_save_17 : decode cX10_save 17 = .ok (.invokevirtual 309, 3) := by decide +kernel
theorem dX10_save_20 : decode cX10_save 20 = .ok (.aload_n 0, 1) := by decide +kernel
theorem dX10_save_21 : decode cX10_save 21 = .ok (.getfield 36, 3) := by decide +kernel
theorem dX10_save_24 : decode cX10_save 24 = .ok (.getfield 342, 3) := by decide +kernel
theorem dX10_save_27 : decode cX10_save 27 = .ok (.iload_n 1, 1) := by decide +kernel
theorem dX10_save_28 : decode cX10_save 28 = .ok (.iconst 1, 1) := by decide +kernel
theorem dX10_save_29 : decode cX10_save 29 = .ok (.bastore, 1) := by decide +kernel
theorem dX10_save_30 : decode cX10_save 30 = .ok (.aload_n 0, 1) := by decide +kernel
theorem dX10_save_31 : decode cX10_save 31 = .ok (.getfield 19, 3) := by decide +kernel
theorem dX10_save_34 : decode cX10_save 34 = .ok (.getfield 100, 3) := by decide +kernel
theorem dX10_save_37 : decode cX10_save 37 = .ok (.getfield 104, 3) := by decide +kernel
theorem dX10_save_40 : decode cX10_save 40 = .ok (.ireturn, 1) := by decide +kernel
theorem dX10_restore_0 : decode cX10_restore 0 = .ok (.iload_n 1, 1) := by decide +kernel
theorem dX10_restore_1 : decode cX10_restore 1 = .ok (.invokestatic 335, 3) := by decide +kernel
theorem dX10_restore_4 : decode cX10_restore 4 = .ok (.aload_n 0, 1) := by decide +kernel
theorem dX10_restore_5 : decode cX10_restore 5 = .ok (.getfield 36, 3) := by decide +kernel
theorem dX10_restore_8 : decode cX10_restore 8 = .ok (.getfield 342, 3) := by decide +kernel
theorem dX10_restore_11 : decode cX10_restore 11 = .ok (.iload_n 1, 1) := by decide +kernel
theorem dX10_restore_12 : decode cX10_restore 12 = .ok (.baload, 1) := by decide +kernel
theorem dX10_restore_13 : decode cX10_restore 13 = .ok (.ifCond .ne 14, 3) := by decide +kernel
theorem dX10_restore_16 : decode cX10_restore 16 = .ok (.new 58, 3) := by decide +kernel
theorem dX10_restore_19 : decode cX10_restore 19 = .ok (.dup, 1) := by decide +kernel
theorem dX10_restore_20 : decode cX10_restore 20 = .ok (.ldc_w 345, 3) := by decide +kernel
theorem dX10_restore_23 : decode cX10_restore 23 = .ok (.invokespecial 62, 3) := by decide +kernel
theorem dX10_restore_26 : decode cX10_restore 26 = .ok (.athrow, 1) := by decide +kernel
theorem dX10_restore_27 : decode cX10_restore 27 = .ok (.aload_n 0, 1) := by decide +kernel
theorem dX10_restore_28 : decode cX10_restore 28 = .ok (.getfield 19, 3) := by decide +kernel
theorem dX10_restore_31 : decode cX10_restore 31 = .ok (.aload_n 0, 1) := by decide +kernel
theorem dX10_restore_32 : decode cX10_restore 32 = .ok (.getfield 36, 3) := by decide +kernel
theorem dX10_restore_35 : decode cX10_restore 35 = .ok (.getfield 338, 3) := by decide +kernel
theorem dX10_restore_38 : decode cX10_restore 38 = .ok (.iload_n 1, 1) := by decide +kernel
theorem dX10_restore_39 : decode cX10_restore 39 = .ok (.aaload, 1) := by decide +kernel
theorem dX10_restore_40 : decode cX10_restore 40 = .ok (.invokevirtual 309, 3) := by decide +kernel
theorem dX10_restore_43 : decode cX10_restore 43 = .ok (.aload_n 0, 1) := by decide +kernel
theorem dX10_restore_44 : decode cX10_restore 44 = .ok (.getfield 29, 3) := by decide +kernel
theorem dX10_restore_47 : decode cX10_restore 47 = .ok (.invokevirtual 76, 3) := by decide +kernel
theorem dX10_restore_50 : decode cX10_restore 50 = .ok (.aload_n 0, 1) := by decide +kernel
theorem dX10_restore_51 : decode cX10_restore 51 = .ok (.getfield 19, 3) := by decide +kernel
theorem dX10_restore_54 : decode cX10_restore 54 = .ok (.getfield 100, 3) := by decide +kernel
theorem dX10_restore_57 : decode cX10_restore 57 = .ok (.getfield 104, 3) := by decide +kernel
theorem dX10_restore_60 : decode cX10_restore 60 = .ok (.ireturn, 1) := by decide +kernel
theorem dX10_requirePerson_0 : decode cX10_requirePerson 0 = .ok (.aload_n 0, 1) := by decide +kernel
theorem dX10_requirePerson_1 : decode cX10_requirePerson 1 = .ok (.getfield 19, 3) := by decide +kernel
theorem dX10_requirePerson_4 : decode cX10_requirePerson 4 = .ok (.getfield 91, 3) := by decide +kernel
theorem dX10_requirePerson_7 : decode cX10_requirePerson 7 = .ok (.iload_n 1, 1) := by decide +kernel
theorem dX10_requirePerson_8 : decode cX10_requirePerson 8 = .ok (.invokevirtual 347, 3) := by decide +kernel
theorem dX10_requirePerson_11 : decode cX10_requirePerson 11 = .ok (.ifCond .ne 14, 3) := by decide +kernel
theorem dX10_requirePerson_14 : decode cX10_requirePerson 14 = .ok (.new 195, 3) := by decide +kernel
theorem dX10_requirePerson_17 : decode cX10_requirePerson 17 = .ok (.dup, 1) := by decide +kernel
theorem dX10_requirePerson_18 : decode cX10_requirePerson 18 = .ok (.ldc_w 350, 3) := by decide +kernel
theorem dX10_requirePerson_21 : decode cX10_requirePerson 21 = .ok (.invokespecial 199, 3) := by decide +kernel
theorem dX10_requirePerson_24 : decode cX10_requirePerson 24 = .ok (.athrow, 1) := by decide +kernel
theorem dX10_requirePerson_25 : decode cX10_requirePerson 25 = .ok (.return_, 1) := by decide +kernel
theorem dX10_requireName_0 : decode cX10_requireName 0 = .ok (.aload_n 0, 1) := by decide +kernel
theorem dX10_requireName_1 : decode cX10_requireName 1 = .ok (.getfield 19, 3) := by decide +kernel
theorem dX10_requireName_4 : decode cX10_requireName 4 = .ok (.getfield 100, 3) := by decide +kernel
theorem dX10_requireName_7 : decode cX10_requireName 7 = .ok (.iload_n 1, 1) := by decide +kernel
theorem dX10_requireName_8 : decode cX10_requireName 8 = .ok (.invokevirtual 352, 3) := by decide +kernel
theorem dX10_requireName_11 : decode cX10_requireName 11 = .ok (.ifCond .ne 14, 3) := by decide +kernel
theorem dX10_requireName_14 : decode cX10_requireName 14 = .ok (.new 195, 3) := by decide +kernel
theorem dX10_requireName_17 : decode cX10_requireName 17 = .ok (.dup, 1) := by decide +kernel
theorem dX10_requireName_18 : decode cX10_requireName 18 = .ok (.ldc_w 353, 3) := by decide +kernel
theorem dX10_requireName_21 : decode cX10_requireName 21 = .ok (.invokespecial 199, 3) := by decide +kernel
theorem dX10_requireName_24 : decode cX10_requireName 24 = .ok (.athrow, 1) := by decide +kernel
theorem dX10_requireName_25 : decode cX10_requireName 25 = .ok (.return_, 1) := by decide +kernel
theorem dX10_requireBench_0 : decode cX10_requireBench 0 = .ok (.iload_n 0, 1) := by decide +kernel
theorem dX10_requireBench_1 : decode cX10_requireBench 1 = .ok (.invokestatic 355, 3) := by decide +kernel
theorem dX10_requireBench_4 : decode cX10_requireBench 4 = .ok (.ifCond .ne 14, 3) := by decide +kernel
theorem dX10_requireBench_7 : decode cX10_requireBench 7 = .ok (.new 195, 3) := by decide +kernel
theorem dX10_requireBench_10 : decode cX10_requireBench 10 = .ok (.dup, 1) := by decide +kernel
theorem dX10_requireBench_11 : decode cX10_requireBench 11 = .ok (.ldc_w 358, 3) := by decide +kernel
theorem dX10_requireBench_14 : decode cX10_requireBench 14 = .ok (.invokespecial 199, 3) := by decide +kernel
theorem dX10_requireBench_17 : decode cX10_requireBench 17 = .ok (.athrow, 1) := by decide +kernel
theorem dX10_requireBench_18 : decode cX10_requireBench 18 = .ok (.return_, 1) := by decide +kernel
theorem dX10_requireCode_0 : decode cX10_requireCode 0 = .ok (.iload_n 0, 1) := by decide +kernel
theorem dX10_requireCode_1 : decode cX10_requireCode 1 = .ok (.iload_n 1, 1) := by decide +kernel
theorem dX10_requireCode_2 : decode cX10_requireCode 2 = .ok (.invokestatic 360, 3) := by decide +kernel
theorem dX10_requireCode_5 : decode cX10_requireCode 5 = .ok (.ifCond .ne 14, 3) := by decide +kernel
theorem dX10_requireCode_8 : decode cX10_requireCode 8 = .ok (.new 47, 3) := by decide +kernel
theorem dX10_requireCode_11 : decode cX10_requireCode 11 = .ok (.dup, 1) := by decide +kernel
theorem dX10_requireCode_12 : decode cX10_requireCode 12 = .ok (.ldc_w 363, 3) := by decide +kernel
theorem dX10_requireCode_15 : decode cX10_requireCode 15 = .ok (.invokespecial 51, 3) := by decide +kernel
theorem dX10_requireCode_18 : decode cX10_requireCode 18 = .ok (.athrow, 1) := by decide +kernel
theorem dX10_requireCode_19 : decode cX10_requireCode 19 = .ok (.return_, 1) := by decide +kernel
theorem dX10_requireSlot_0 : decode cX10_requireSlot 0 = .ok (.iload_n 0, 1) := by decide +kernel
theorem dX10_requireSlot_1 : decode cX10_requireSlot 1 = .ok (.ifCond .lt 8, 3) := by decide +kernel
theorem dX10_requireSlot_4 : decode cX10_requireSlot 4 = .ok (.iload_n 0, 1) := by decide +kernel
theorem dX10_requireSlot_5 : decode cX10_requireSlot 5 = .ok (.iconst 2, 1) := by decide +kernel
theorem dX10_requireSlot_6 : decode cX10_requireSlot 6 = .ok (.if_icmp .lt 14, 3) := by decide +kernel
theorem dX10_requireSlot_9 : decode cX10_requireSlot 9 = .ok (.new 195, 3) := by decide +kernel
theorem dX10_requireSlot_12 : decode cX10_requireSlot 12 = .ok (.dup, 1) := by decide +kernel
theorem dX10_requireSlot_13 : decode cX10_requireSlot 13 = .ok (.ldc_w 365, 3) := by decide +kernel
theorem dX10_requireSlot_16 : decode cX10_requireSlot 16 = .ok (.invokespecial 199, 3) := by decide +kernel
theorem dX10_requireSlot_19 : decode cX10_requireSlot 19 = .ok (.athrow, 1) := by decide +kernel
theorem dX10_requireSlot_20 : decode cX10_requireSlot 20 = .ok (.return_, 1) := by decide +kernel
theorem dX10_isBench_0 : decode cX10_isBench 0 = .ok (.iload_n 0, 1) := by decide +kernel
theorem dX10_isBench_1 : decode cX10_isBench 1 = .ok (.ifCond .lt 12, 3) := by decide +kernel
theorem dX10_isBench_4 : decode cX10_isBench 4 = .ok (.iload_n 0, 1) := by decide +kernel
theorem dX10_isBench_5 : decode cX10_isBench 5 = .ok (.iconst 4, 1) := by decide +kernel
theorem dX10_isBench_6 : decode cX10_isBench 6 = .ok (.if_icmp .ge 7, 3) := by decide +kernel
theorem dX10_isBench_9 : decode cX10_isBench 9 = .ok (.iconst 1, 1) := by decide +kernel
theorem dX10_isBench_10 : decode cX10_isBench 10 = .ok (.goto 4, 3) := by decide +kernel
theorem dX10_isBench_13 : decode cX10_isBench 13 = .ok (.iconst 0, 1) := by decide +kernel
theorem dX10_isBench_14 : decode cX10_isBench 14 = .ok (.ireturn, 1) := by decide +kernel
theorem dX10_isFamily_0 : decode cX10_isFamily 0 = .ok (.iload_n 0, 1) := by decide +kernel
theorem dX10_isFamily_1 : decode cX10_isFamily 1 = .ok (.ifCond .lt 13, 3) := by decide +kernel
theorem dX10_isFamily_4 : decode cX10_isFamily 4 = .ok (.iload_n 0, 1) := by decide +kernel
theorem dX10_isFamily_5 : decode cX10_isFamily 5 = .ok (.bipush 6, 2) := by decide +kernel
theorem dX10_isFamily_7 : decode cX10_isFamily 7 = .ok (.if_icmp .ge 7, 3) := by decide +kernel
theorem dX10_isFamily_10 : decode cX10_isFamily 10 = .ok (.iconst 1, 1) := by decide +kernel
theorem dX10_isFamily_11 : decode cX10_isFamily 11 = .ok (.goto 4, 3) := by decide +kernel
theorem dX10_isFamily_14 : decode cX10_isFamily 14 = .ok (.iconst 0, 1) := by decide +kernel
theorem dX10_isFamily_15 : decode cX10_isFamily 15 = .ok (.ireturn, 1) := by decide +kernel
theorem dX10_isAgeToCome_0 : decode cX10_isAgeToCome 0 = .ok (.iload_n 0, 1) := by decide +kernel
theorem dX10_isAgeToCome_1 : decode cX10_isAgeToCome 1 = .ok (.ifCond .lt 13, 3) := by decide +kernel
theorem dX10_isAgeToCome_4 : decode cX10_isAgeToCome 4 = .ok (.iload_n 0, 1) := by decide +kernel
theorem dX10_isAgeToCome_5 : decode cX10_isAgeToCome 5 = .ok (.bipush 99, 2) := by decide +kernel
theorem dX10_isAgeToCome_7 : decode cX10_isAgeToCome 7 = .ok (.if_icmp .gt 7, 3) := by decide +kernel
theorem dX10_isAgeToCome_10 : decode cX10_isAgeToCome 10 = .ok (.iconst 1, 1) := by decide +kernel
theorem dX10_isAgeToCome_11 : decode cX10_isAgeToCome 11 = .ok (.goto 4, 3) := by decide +kernel
theorem dX10_isAgeToCome_14 : decode cX10_isAgeToCome 14 = .ok (.iconst 0, 1) := by decide +kernel
theorem dX10_isAgeToCome_15 : decode cX10_isAgeToCome 15 = .ok (.ireturn, 1) := by decide +kernel
theorem dX10_isYearsAtOnce_0 : decode cX10_isYearsAtOnce 0 = .ok (.iload_n 0, 1) := by decide +kernel
theorem dX10_isYearsAtOnce_1 : decode cX10_isYearsAtOnce 1 = .ok (.iconst 1, 1) := by decide +kernel
theorem dX10_isYearsAtOnce_2 : decode cX10_isYearsAtOnce 2 = .ok (.if_icmp .lt 13, 3) := by decide +kernel
theorem dX10_isYearsAtOnce_5 : decode cX10_isYearsAtOnce 5 = .ok (.iload_n 0, 1) := by decide +kernel
theorem dX10_isYearsAtOnce_6 : decode cX10_isYearsAtOnce 6 = .ok (.bipush 9, 2) := by decide +kernel
theorem dX10_isYearsAtOnce_8 : decode cX10_isYearsAtOnce 8 = .ok (.if_icmp .gt 7, 3) := by decide +kernel
theorem dX10_isYearsAtOnce_11 : decode cX10_isYearsAtOnce 11 = .ok (.iconst 1, 1) := by decide +kernel
theorem dX10_isYearsAtOnce_12 : decode cX10_isYearsAtOnce 12 = .ok (.goto 4, 3) := by decide +kernel
theorem dX10_isYearsAtOnce_15 : decode cX10_isYearsAtOnce 15 = .ok (.iconst 0, 1) := by decide +kernel
theorem dX10_isYearsAtOnce_16 : decode cX10_isYearsAtOnce 16 = .ok (.ireturn, 1) := by decide +kernel
theorem dX10_isSettingWith_0 : decode cX10_isSettingWith 0 = .ok (.iload_n 0, 1) := by decide +kernel
theorem dX10_isSettingWith_1 : decode cX10_isSettingWith 1 = .ok (.ifCond .lt 8, 3) := by decide +kernel
theorem dX10_isSettingWith_4 : decode cX10_isSettingWith 4 = .ok (.iload_n 0, 1) := by decide +kernel
theorem dX10_isSettingWith_5 : decode cX10_isSettingWith 5 = .ok (.iconst 3, 1) := by decide +kernel
theorem dX10_isSettingWith_6 : decode cX10_isSettingWith 6 = .ok (.if_icmp .lt 5, 3) := by decide +kernel
theorem dX10_isSettingWith_9 : decode cX10_isSettingWith 9 = .ok (.iconst 0, 1) := by decide +kernel
theorem dX10_isSettingWith_10 : decode cX10_isSettingWith 10 = .ok (.ireturn, 1) := by decide +kernel
theorem dX10_isSettingWith_11 : decode cX10_isSettingWith 11 = .ok (.iload_n 0, 1) := by decide +kernel
theorem dX10_isSettingWith_12 : decode cX10_isSettingWith 12 = .ok (.iconst 2, 1) := by decide +kernel
theorem dX10_isSettingWith_13 : decode cX10_isSettingWith 13 = .ok (.if_icmp .ne 7, 3) := by decide +kernel
theorem dX10_isSettingWith_16 : decode cX10_isSettingWith 16 = .ok (.iconst 0, 1) := by decide +kernel
theorem dX10_isSettingWith_17 : decode cX10_isSettingWith 17 = .ok (.goto 4, 3) := by decide +kernel
theorem dX10_isSettingWith_20 : decode cX10_isSettingWith 20 = .ok (.iconst 1, 1) := by decide +kernel
theorem dX10_isSettingWith_21 : decode cX10_isSettingWith 21 = .ok (.istore_n 2, 1) := by decide +kernel
theorem dX10_isSettingWith_22 : decode cX10_isSettingWith 22 = .ok (.iload_n 1, 1) := by decide +kernel
theorem dX10_isSettingWith_23 : decode cX10_isSettingWith 23 = .ok (.iload_n 2, 1) := by decide +kernel
theorem dX10_isSettingWith_24 : decode cX10_isSettingWith 24 = .ok (.if_icmp .lt 13, 3) := by decide +kernel
theorem dX10_isSettingWith_27 : decode cX10_isSettingWith 27 = .ok (.iload_n 1, 1) := by decide +kernel
theorem dX10_isSettingWith_28 : decode cX10_isSettingWith 28 = .ok (.bipush 9, 2) := by decide +kernel
theorem dX10_isSettingWith_30 : decode cX10_isSettingWith 30 = .ok (.if_icmp .gt 7, 3) := by decide +kernel
theorem dX10_isSettingWith_33 : decode cX10_isSettingWith 33 = .ok (.iconst 1, 1) := by decide +kernel
theorem dX10_isSettingWith_34 : decode cX10_isSettingWith 34 = .ok (.goto 4, 3) := by decide +kernel
theorem dX10_isSettingWith_37 : decode cX10_isSettingWith 37 = .ok (.iconst 0, 1) := by decide +kernel
theorem dX10_isSettingWith_38 : decode cX10_isSettingWith 38 = .ok (.ireturn, 1) := by decide +kernel
theorem dL_append_0 : decode cL_append 0 = .ok (.aload_n 2, 1) := by decide +kernel
theorem dL_append_1 : decode cL_append 1 = .ok (.iconst 0, 1) := by decide +kernel
theorem dL_append_2 : decode cL_append 2 = .ok (.aload_n 0, 1) := by decide +kernel
theorem dL_append_3 : decode cL_append 3 = .ok (.iload_n 1, 1) := by decide +kernel
theorem dL_append_4 : decode cL_append 4 = .ok (.invokevirtual 7, 3) := by decide +kernel
theorem dL_append_7 : decode cL_append 7 = .ok (.i2l, 1) := by decide +kernel
theorem dL_append_8 : decode cL_append 8 = .ok (.lastore, 1) := by decide +kernel
theorem dL_append_9 : decode cL_append 9 = .ok (.goto 9, 3) := by decide +kernel
theorem dL_append_12 : decode cL_append 12 = .ok (.astore_n 3, 1) := by decide +kernel
theorem dL_append_13 : decode cL_append 13 = .ok (.iconst 1, 1) := by decide +kernel
theorem dL_append_14 : decode cL_append 14 = .ok (.ireturn, 1) := by decide +kernel
theorem dL_append_15 : decode cL_append 15 = .ok (.astore_n 3, 1) := by decide +kernel
theorem dL_append_16 : decode cL_append 16 = .ok (.iconst 2, 1) := by decide +kernel
theorem dL_append_17 : decode cL_append 17 = .ok (.ireturn, 1) := by decide +kernel
theorem dL_append_18 : decode cL_append 18 = .ok (.iconst 0, 1) := by decide +kernel
theorem dL_append_19 : decode cL_append 19 = .ok (.ireturn, 1) := by decide +kernel
theorem dL_load_0 : decode cL_load 0 = .ok (.aload_n 1, 1) := by decide +kernel
theorem dL_load_1 : decode cL_load 1 = .ok (.iconst 0, 1) := by decide +kernel
theorem dL_load_2 : decode cL_load 2 = .ok (.aload_n 0, 1) := by decide +kernel
theorem dL_load_3 : decode cL_load 3 = .ok (.invokevirtual 17, 3) := by decide +kernel
theorem dL_load_6 : decode cL_load 6 = .ok (.i2l, 1) := by decide +kernel
theorem dL_load_7 : decode cL_load 7 = .ok (.lastore, 1) := by decide +kernel
theorem dL_load_8 : decode cL_load 8 = .ok (.goto 6, 3) := by decide +kernel
theorem dL_load_11 : decode cL_load 11 = .ok (.astore_n 2, 1) := by decide +kernel
theorem dL_load_12 : decode cL_load 12 = .ok (.iconst 1, 1) := by decide +kernel
theorem dL_load_13 : decode cL_load 13 = .ok (.ireturn, 1) := by decide +kernel
theorem dL_load_14 : decode cL_load 14 = .ok (.iconst 0, 1) := by decide +kernel
theorem dL_load_15 : decode cL_load 15 = .ok (.ireturn, 1) := by decide +kernel
theorem dL_about_0 : decode cL_about 0 = .ok (.aload_n 2, 1) := by decide +kernel
theorem dL_about_1 : decode cL_about 1 = .ok (.iconst 0, 1) := by decide +kernel
theorem dL_about_2 : decode cL_about 2 = .ok (.aload_n 0, 1) := by decide +kernel
theorem dL_about_3 : decode cL_about 3 = .ok (.iload_n 1, 1) := by decide +kernel
theorem dL_about_4 : decode cL_about 4 = .ok (.invokevirtual 21, 3) := by decide +kernel
theorem dL_about_7 : decode cL_about 7 = .ok (.i2l, 1) := by decide +kernel
theorem dL_about_8 : decode cL_about 8 = .ok (.lastore, 1) := by decide +kernel
theorem dL_about_9 : decode cL_about 9 = .ok (.goto 6, 3) := by decide +kernel
theorem dL_about_12 : decode cL_about 12 = .ok (.astore_n 3, 1) := by decide +kernel
theorem dL_about_13 : decode cL_about 13 = .ok (.iconst 1, 1) := by decide +kernel
theorem dL_about_14 : decode cL_about 14 = .ok (.ireturn, 1) := by decide +kernel
theorem dL_about_15 : decode cL_about 15 = .ok (.iconst 0, 1) := by decide +kernel
theorem dL_about_16 : decode cL_about 16 = .ok (.ireturn, 1) := by decide +kernel
theorem dL_personOf_0 : decode cL_personOf 0 = .ok (.aload_n 3, 1) := by decide +kernel
theorem dL_personOf_1 : decode cL_personOf 1 = .ok (.iconst 0, 1) := by decide +kernel
theorem dL_personOf_2 : decode cL_personOf 2 = .ok (.aload_n 0, 1) := by decide +kernel
theorem dL_personOf_3 : decode cL_personOf 3 = .ok (.iload_n 1, 1) := by decide +kernel
theorem dL_personOf_4 : decode cL_personOf 4 = .ok (.iload_n 2, 1) := by decide +kernel
theorem dL_personOf_5 : decode cL_personOf 5 = .ok (.invokevirtual 24, 3) := by decide +kernel
theorem dL_personOf_8 : decode cL_personOf 8 = .ok (.i2l, 1) := by decide +kernel
theorem dL_personOf_9 : decode cL_personOf 9 = .ok (.lastore, 1) := by decide +kernel
theorem dL_personOf_10 : decode cL_personOf 10 = .ok (.goto 11, 3) := by decide +kernel
theorem dL_personOf_13 : decode cL_personOf 13 = .ok (.astore 4, 2) := by decide +kernel
theorem dL_personOf_15 : decode cL_personOf 15 = .ok (.iconst 1, 1) := by decide +kernel
theorem dL_personOf_16 : decode cL_personOf 16 = .ok (.ireturn, 1) := by decide +kernel
theorem dL_personOf_17 : decode cL_personOf 17 = .ok (.astore 4, 2) := by decide +kernel
theorem dL_personOf_19 : decode cL_personOf 19 = .ok (.iconst 2, 1) := by decide +kernel
theorem dL_personOf_20 : decode cL_personOf 20 = .ok (.ireturn, 1) := by decide +kernel
theorem dL_personOf_21 : decode cL_personOf 21 = .ok (.iconst 0, 1) := by decide +kernel
theorem dL_personOf_22 : decode cL_personOf 22 = .ok (.ireturn, 1) := by decide +kernel
theorem dL_nameOf_0 : decode cL_nameOf 0 = .ok (.aload_n 3, 1) := by decide +kernel
theorem dL_nameOf_1 : decode cL_nameOf 1 = .ok (.iconst 0, 1) := by decide +kernel
theorem dL_nameOf_2 : decode cL_nameOf 2 = .ok (.aload_n 0, 1) := by decide +kernel
theorem dL_nameOf_3 : decode cL_nameOf 3 = .ok (.iload_n 1, 1) := by decide +kernel
theorem dL_nameOf_4 : decode cL_nameOf 4 = .ok (.iload_n 2, 1) := by decide +kernel
theorem dL_nameOf_5 : decode cL_nameOf 5 = .ok (.invokevirtual 30, 3) := by decide +kernel
theorem dL_nameOf_8 : decode cL_nameOf 8 = .ok (.i2l, 1) := by decide +kernel
theorem dL_nameOf_9 : decode cL_nameOf 9 = .ok (.lastore, 1) := by decide +kernel
theorem dL_nameOf_10 : decode cL_nameOf 10 = .ok (.goto 11, 3) := by decide +kernel
theorem dL_nameOf_13 : decode cL_nameOf 13 = .ok (.astore 4, 2) := by decide +kernel
theorem dL_nameOf_15 : decode cL_nameOf 15 = .ok (.iconst 1, 1) := by decide +kernel
theorem dL_nameOf_16 : decode cL_nameOf 16 = .ok (.ireturn, 1) := by decide +kernel
theorem dL_nameOf_17 : decode cL_nameOf 17 = .ok (.astore 4, 2) := by decide +kernel
theorem dL_nameOf_19 : decode cL_nameOf 19 = .ok (.iconst 2, 1) := by decide +kernel
theorem dL_nameOf_20 : decode cL_nameOf 20 = .ok (.ireturn, 1) := by decide +kernel
theorem dL_nameOf_21 : decode cL_nameOf 21 = .ok (.iconst 0, 1) := by decide +kernel
theorem dL_nameOf_22 : decode cL_nameOf 22 = .ok (.ireturn, 1) := by decide +kernel
theorem dL_letter_0 : decode cL_letter 0 = .ok (.aload_n 3, 1) := by decide +kernel
theorem dL_letter_1 : decode cL_letter 1 = .ok (.iconst 0, 1) := by decide +kernel
theorem dL_letter_2 : decode cL_letter 2 = .ok (.aload_n 0, 1) := by decide +kernel
theorem dL_letter_3 : decode cL_letter 3 = .ok (.iload_n 1, 1) := by decide +kernel
theorem dL_letter_4 : decode cL_letter 4 = .ok (.iload_n 2, 1) := by decide +kernel
theorem dL_letter_5 : decode cL_letter 5 = .ok (.invokevirtual 33, 3) := by decide +kernel
theorem dL_letter_8 : decode cL_letter 8 = .ok (.i2l, 1) := by decide +kernel
theorem dL_letter_9 : decode cL_letter 9 = .ok (.lastore, 1) := by decide +kernel
theorem dL_letter_10 : decode cL_letter 10 = .ok (.goto 7, 3) := by decide +kernel
theorem dL_letter_13 : decode cL_letter 13 = .ok (.astore 4, 2) := by decide +kernel
theorem dL_letter_15 : decode cL_letter 15 = .ok (.iconst 1, 1) := by decide +kernel
theorem dL_letter_16 : decode cL_letter 16 = .ok (.ireturn, 1) := by decide +kernel
theorem dL_letter_17 : decode cL_letter 17 = .ok (.iconst 0, 1) := by decide +kernel
theorem dL_letter_18 : decode cL_letter 18 = .ok (.ireturn, 1) := by decide +kernel
theorem dL_roll_0 : decode cL_roll 0 = .ok (.aload_n 2, 1) := by decide +kernel
theorem dL_roll_1 : decode cL_roll 1 = .ok (.iconst 0, 1) := by decide +kernel
theorem dL_roll_2 : decode cL_roll 2 = .ok (.aload_n 0, 1) := by decide +kernel
theorem dL_roll_3 : decode cL_roll 3 = .ok (.iload_n 1, 1) := by decide +kernel
theorem dL_roll_4 : decode cL_roll 4 = .ok (.invokevirtual 36, 3) := by decide +kernel
theorem dL_roll_7 : decode cL_roll 7 = .ok (.i2l, 1) := by decide +kernel
theorem dL_roll_8 : decode cL_roll 8 = .ok (.lastore, 1) := by decide +kernel
theorem dL_roll_9 : decode cL_roll 9 = .ok (.goto 6, 3) := by decide +kernel
theorem dL_roll_12 : decode cL_roll 12 = .ok (.astore_n 3, 1) := by decide +kernel
theorem dL_roll_13 : decode cL_roll 13 = .ok (.iconst 1, 1) := by decide +kernel
theorem dL_roll_14 : decode cL_roll 14 = .ok (.ireturn, 1) := by decide +kernel
theorem dL_roll_15 : decode cL_roll 15 = .ok (.iconst 0, 1) := by decide +kernel
theorem dL_roll_16 : decode cL_roll 16 = .ok (.ireturn, 1) := by decide +kernel
theorem dL_meant_0 : decode cL_meant 0 = .ok (.aload 5, 2) := by decide +kernel
theorem dL_meant_2 : decode cL_meant 2 = .ok (.iconst 0, 1) := by decide +kernel
theorem dL_meant_3 : decode cL_meant 3 = .ok (.aload_n 0, 1) := by decide +kernel
theorem dL_meant_4 : decode cL_meant 4 = .ok (.iload_n 1, 1) := by decide +kernel
theorem dL_meant_5 : decode cL_meant 5 = .ok (.iload_n 2, 1) := by decide +kernel
theorem dL_meant_6 : decode cL_meant 6 = .ok (.iload_n 3, 1) := by decide +kernel
theorem dL_meant_7 : decode cL_meant 7 = .ok (.iload 4, 2) := by decide +kernel
theorem dL_meant_9 : decode cL_meant 9 = .ok (.invokevirtual 39, 3) := by decide +kernel
theorem dL_meant_12 : decode cL_meant 12 = .ok (.i2l, 1) := by decide +kernel
theorem dL_meant_13 : decode cL_meant 13 = .ok (.lastore, 1) := by decide +kernel
theorem dL_meant_14 : decode cL_meant 14 = .ok (.goto 11, 3) := by decide +kernel
theorem dL_meant_17 : decode cL_meant 17 = .ok (.astore 6, 2) := by decide +kernel
theorem dL_meant_19 : decode cL_meant 19 = .ok (.iconst 1, 1) := by decide +kernel
theorem dL_meant_20 : decode cL_meant 20 = .ok (.ireturn, 1) := by decide +kernel
theorem dL_meant_21 : decode cL_meant 21 = .ok (.astore 6, 2) := by decide +kernel
theorem dL_meant_23 : decode cL_meant 23 = .ok (.iconst 2, 1) := by decide +kernel
theorem dL_meant_24 : decode cL_meant 24 = .ok (.ireturn, 1) := by decide +kernel
theorem dL_meant_25 : decode cL_meant 25 = .ok (.iconst 0, 1) := by decide +kernel
theorem dL_meant_26 : decode cL_meant 26 = .ok (.ireturn, 1) := by decide +kernel
theorem dL_person_0 : decode cL_person 0 = .ok (.aload 4, 2) := by decide +kernel
theorem dL_person_2 : decode cL_person 2 = .ok (.iconst 0, 1) := by decide +kernel
theorem dL_person_3 : decode cL_person 3 = .ok (.aload_n 0, 1) := by decide +kernel
theorem dL_person_4 : decode cL_person 4 = .ok (.iload_n 1, 1) := by decide +kernel
theorem dL_person_5 : decode cL_person 5 = .ok (.iload_n 2, 1) := by decide +kernel
theorem dL_person_6 : decode cL_person 6 = .ok (.iload_n 3, 1) := by decide +kernel
theorem dL_person_7 : decode cL_person 7 = .ok (.invokevirtual 43, 3) := by decide +kernel
theorem dL_person_10 : decode cL_person 10 = .ok (.i2l, 1) := by decide +kernel
theorem dL_person_11 : decode cL_person 11 = .ok (.lastore, 1) := by decide +kernel
theorem dL_person_12 : decode cL_person 12 = .ok (.goto 15, 3) := by decide +kernel
theorem dL_person_15 : decode cL_person 15 = .ok (.astore 5, 2) := by decide +kernel
theorem dL_person_17 : decode cL_person 17 = .ok (.iconst 1, 1) := by decide +kernel
theorem dL_person_18 : decode cL_person 18 = .ok (.ireturn, 1) := by decide +kernel
theorem dL_person_19 : decode cL_person 19 = .ok (.astore 5, 2) := by decide +kernel
theorem dL_person_21 : decode cL_person 21 = .ok (.iconst 2, 1) := by decide +kernel
theorem dL_person_22 : decode cL_person 22 = .ok (.ireturn, 1) := by decide +kernel
theorem dL_person_23 : decode cL_person 23 = .ok (.astore 5, 2) := by decide +kernel
theorem dL_person_25 : decode cL_person 25 = .ok (.iconst 3, 1) := by decide +kernel
theorem dL_person_26 : decode cL_person 26 = .ok (.ireturn, 1) := by decide +kernel
theorem dL_person_27 : decode cL_person 27 = .ok (.iconst 0, 1) := by decide +kernel
theorem dL_person_28 : decode cL_person 28 = .ok (.ireturn, 1) := by decide +kernel
theorem dL_sit_0 : decode cL_sit 0 = .ok (.aload_n 3, 1) := by decide +kernel
theorem dL_sit_1 : decode cL_sit 1 = .ok (.iconst 0, 1) := by decide +kernel
theorem dL_sit_2 : decode cL_sit 2 = .ok (.aload_n 0, 1) := by decide +kernel
theorem dL_sit_3 : decode cL_sit 3 = .ok (.iload_n 1, 1) := by decide +kernel
theorem dL_sit_4 : decode cL_sit 4 = .ok (.iload_n 2, 1) := by decide +kernel
theorem dL_sit_5 : decode cL_sit 5 = .ok (.invokevirtual 47, 3) := by decide +kernel
theorem dL_sit_8 : decode cL_sit 8 = .ok (.i2l, 1) := by decide +kernel
theorem dL_sit_9 : decode cL_sit 9 = .ok (.lastore, 1) := by decide +kernel
theorem dL_sit_10 : decode cL_sit 10 = .ok (.goto 11, 3) := by decide +kernel
theorem dL_sit_13 : decode cL_sit 13 = .ok (.astore 4, 2) := by decide +kernel
theorem dL_sit_15 : decode cL_sit 15 = .ok (.iconst 1, 1) := by decide +kernel
theorem dL_sit_16 : decode cL_sit 16 = .ok (.ireturn, 1) := by decide +kernel
theorem dL_sit_17 : decode cL_sit 17 = .ok (.astore 4, 2) := by decide +kernel
theorem dL_sit_19 : decode cL_sit 19 = .ok (.iconst 2, 1) := by decide +kernel
theorem dL_sit_20 : decode cL_sit 20 = .ok (.ireturn, 1) := by decide +kernel
theorem dL_sit_21 : decode cL_sit 21 = .ok (.iconst 0, 1) := by decide +kernel
theorem dL_sit_22 : decode cL_sit 22 = .ok (.ireturn, 1) := by decide +kernel
theorem dL_give_0 : decode cL_give 0 = .ok (.aload 5, 2) := by decide +kernel
theorem dL_give_2 : decode cL_give 2 = .ok (.iconst 0, 1) := by decide +kernel
theorem dL_give_3 : decode cL_give 3 = .ok (.aload_n 0, 1) := by decide +kernel
theorem dL_give_4 : decode cL_give 4 = .ok (.iload_n 1, 1) := by decide +kernel
theorem dL_give_5 : decode cL_give 5 = .ok (.iload_n 2, 1) := by decide +kernel
theorem dL_give_6 : decode cL_give 6 = .ok (.iload_n 3, 1) := by decide +kernel
theorem dL_give_7 : decode cL_give 7 = .ok (.iload 4, 2) := by decide +kernel
theorem dL_give_9 : decode cL_give 9 = .ok (.invokevirtual 50, 3) := by decide +kernel
theorem dL_give_12 : decode cL_give 12 = .ok (.i2l, 1) := by decide +kernel
theorem dL_give_13 : decode cL_give 13 = .ok (.lastore, 1) := by decide +kernel
theorem dL_give_14 : decode cL_give 14 = .ok (.goto 11, 3) := by decide +kernel
theorem dL_give_17 : decode cL_give 17 = .ok (.astore 6, 2) := by decide +kernel
theorem dL_give_19 : decode cL_give 19 = .ok (.iconst 1, 1) := by decide +kernel
theorem dL_give_20 : decode cL_give 20 = .ok (.ireturn, 1) := by decide +kernel
theorem dL_give_21 : decode cL_give 21 = .ok (.astore 6, 2) := by decide +kernel
theorem dL_give_23 : decode cL_give 23 = .ok (.iconst 2, 1) := by decide +kernel
theorem dL_give_24 : decode cL_give 24 = .ok (.ireturn, 1) := by decide +kernel
theorem dL_give_25 : decode cL_give 25 = .ok (.iconst 0, 1) := by decide +kernel
theorem dL_give_26 : decode cL_give 26 = .ok (.ireturn, 1) := by decide +kernel
theorem dL_call_0 : decode cL_call 0 = .ok (.aload 4, 2) := by decide +kernel
theorem dL_call_2 : decode cL_call 2 = .ok (.iconst 0, 1) := by decide +kernel
theorem dL_call_3 : decode cL_call 3 = .ok (.aload_n 0, 1) := by decide +kernel
theorem dL_call_4 : decode cL_call 4 = .ok (.iload_n 1, 1) := by decide +kernel
theorem dL_call_5 : decode cL_call 5 = .ok (.iload_n 2, 1) := by decide +kernel
theorem dL_call_6 : decode cL_call 6 = .ok (.iload_n 3, 1) := by decide +kernel
theorem dL_call_7 : decode cL_call 7 = .ok (.invokevirtual 53, 3) := by decide +kernel
theorem dL_call_10 : decode cL_call 10 = .ok (.i2l, 1) := by decide +kernel
theorem dL_call_11 : decode cL_call 11 = .ok (.lastore, 1) := by decide +kernel
theorem dL_call_12 : decode cL_call 12 = .ok (.goto 11, 3) := by decide +kernel
theorem dL_call_15 : decode cL_call 15 = .ok (.astore 5, 2) := by decide +kernel
theorem dL_call_17 : decode cL_call 17 = .ok (.iconst 1, 1) := by decide +kernel
theorem dL_call_18 : decode cL_call 18 = .ok (.ireturn, 1) := by decide +kernel
theorem dL_call_19 : decode cL_call 19 = .ok (.astore 5, 2) := by decide +kernel
theorem dL_call_21 : decode cL_call 21 = .ok (.iconst 2, 1) := by decide +kernel
theorem dL_call_22 : decode cL_call 22 = .ok (.ireturn, 1) := by decide +kernel
theorem dL_call_23 : decode cL_call 23 = .ok (.iconst 0, 1) := by decide +kernel
theorem dL_call_24 : decode cL_call 24 = .ok (.ireturn, 1) := by decide +kernel
theorem dL_years_0 : decode cL_years 0 = .ok (.aload_n 2, 1) := by decide +kernel
theorem dL_years_1 : decode cL_years 1 = .ok (.iconst 0, 1) := by decide +kernel
theorem dL_years_2 : decode cL_years 2 = .ok (.aload_n 0, 1) := by decide +kernel
theorem dL_years_3 : decode cL_years 3 = .ok (.iload_n 1, 1) := by decide +kernel
theorem dL_years_4 : decode cL_years 4 = .ok (.invokevirtual 56, 3) := by decide +kernel
theorem dL_years_7 : decode cL_years 7 = .ok (.i2l, 1) := by decide +kernel
theorem dL_years_8 : decode cL_years 8 = .ok (.lastore, 1) := by decide +kernel
theorem dL_years_9 : decode cL_years 9 = .ok (.goto 9, 3) := by decide +kernel
theorem dL_years_12 : decode cL_years 12 = .ok (.astore_n 3, 1) := by decide +kernel
theorem dL_years_13 : decode cL_years 13 = .ok (.iconst 1, 1) := by decide +kernel
theorem dL_years_14 : decode cL_years 14 = .ok (.ireturn, 1) := by decide +kernel
theorem dL_years_15 : decode cL_years 15 = .ok (.astore_n 3, 1) := by decide +kernel
theorem dL_years_16 : decode cL_years 16 = .ok (.iconst 2, 1) := by decide +kernel
theorem dL_years_17 : decode cL_years 17 = .ok (.ireturn, 1) := by decide +kernel
theorem dL_years_18 : decode cL_years 18 = .ok (.iconst 0, 1) := by decide +kernel
theorem dL_years_19 : decode cL_years 19 = .ok (.ireturn, 1) := by decide +kernel
theorem dL_set_0 : decode cL_set 0 = .ok (.aload_n 3, 1) := by decide +kernel
theorem dL_set_1 : decode cL_set 1 = .ok (.iconst 0, 1) := by decide +kernel
theorem dL_set_2 : decode cL_set 2 = .ok (.aload_n 0, 1) := by decide +kernel
theorem dL_set_3 : decode cL_set 3 = .ok (.iload_n 1, 1) := by decide +kernel
theorem dL_set_4 : decode cL_set 4 = .ok (.iload_n 2, 1) := by decide +kernel
theorem dL_set_5 : decode cL_set 5 = .ok (.invokevirtual 59, 3) := by decide +kernel
theorem dL_set_8 : decode cL_set 8 = .ok (.i2l, 1) := by decide +kernel
theorem dL_set_9 : decode cL_set 9 = .ok (.lastore, 1) := by decide +kernel
theorem dL_set_10 : decode cL_set 10 = .ok (.goto 7, 3) := by decide +kernel
theorem dL_set_13 : decode cL_set 13 = .ok (.astore 4, 2) := by decide +kernel
theorem dL_set_15 : decode cL_set 15 = .ok (.iconst 1, 1) := by decide +kernel
theorem dL_set_16 : decode cL_set 16 = .ok (.ireturn, 1) := by decide +kernel
theorem dL_set_17 : decode cL_set 17 = .ok (.iconst 0, 1) := by decide +kernel
theorem dL_set_18 : decode cL_set 18 = .ok (.ireturn, 1) := by decide +kernel
theorem dL_undo_0 : decode cL_undo 0 = .ok (.aload_n 1, 1) := by decide +kernel
theorem dL_undo_1 : decode cL_undo 1 = .ok (.iconst 0, 1) := by decide +kernel
theorem dL_undo_2 : decode cL_undo 2 = .ok (.aload_n 0, 1) := by decide +kernel
theorem dL_undo_3 : decode cL_undo 3 = .ok (.invokevirtual 62, 3) := by decide +kernel
theorem dL_undo_6 : decode cL_undo 6 = .ok (.i2l, 1) := by decide +kernel
theorem dL_undo_7 : decode cL_undo 7 = .ok (.lastore, 1) := by decide +kernel
theorem dL_undo_8 : decode cL_undo 8 = .ok (.goto 6, 3) := by decide +kernel
theorem dL_undo_11 : decode cL_undo 11 = .ok (.astore_n 2, 1) := by decide +kernel
theorem dL_undo_12 : decode cL_undo 12 = .ok (.iconst 1, 1) := by decide +kernel
theorem dL_undo_13 : decode cL_undo 13 = .ok (.ireturn, 1) := by decide +kernel
theorem dL_undo_14 : decode cL_undo 14 = .ok (.iconst 0, 1) := by decide +kernel
theorem dL_undo_15 : decode cL_undo 15 = .ok (.ireturn, 1) := by decide +kernel
theorem dL_why_0 : decode cL_why 0 = .ok (.aload 5, 2) := by decide +kernel
theorem dL_why_2 : decode cL_why 2 = .ok (.iconst 0, 1) := by decide +kernel
theorem dL_why_3 : decode cL_why 3 = .ok (.aload_n 0, 1) := by decide +kernel
theorem dL_why_4 : decode cL_why 4 = .ok (.iload_n 1, 1) := by decide +kernel
theorem dL_why_5 : decode cL_why 5 = .ok (.iload_n 2, 1) := by decide +kernel
theorem dL_why_6 : decode cL_why 6 = .ok (.iload_n 3, 1) := by decide +kernel
theorem dL_why_7 : decode cL_why 7 = .ok (.iload 4, 2) := by decide +kernel
theorem dL_why_9 : decode cL_why 9 = .ok (.invokevirtual 65, 3) := by decide +kernel
theorem dL_why_12 : decode cL_why 12 = .ok (.i2l, 1) := by decide +kernel
theorem dL_why_13 : decode cL_why 13 = .ok (.lastore, 1) := by decide +kernel
theorem dL_why_14 : decode cL_why 14 = .ok (.goto 11, 3) := by decide +kernel
theorem dL_why_17 : decode cL_why 17 = .ok (.astore 6, 2) := by decide +kernel
theorem dL_why_19 : decode cL_why 19 = .ok (.iconst 1, 1) := by decide +kernel
theorem dL_why_20 : decode cL_why 20 = .ok (.ireturn, 1) := by decide +kernel
theorem dL_why_21 : decode cL_why 21 = .ok (.astore 6, 2) := by decide +kernel
theorem dL_why_23 : decode cL_why 23 = .ok (.iconst 2, 1) := by decide +kernel
theorem dL_why_24 : decode cL_why 24 = .ok (.ireturn, 1) := by decide +kernel
theorem dL_why_25 : decode cL_why 25 = .ok (.iconst 0, 1) := by decide +kernel
theorem dL_why_26 : decode cL_why 26 = .ok (.ireturn, 1) := by decide +kernel
theorem dL_endsIn_0 : decode cL_endsIn 0 = .ok (.aload_n 2, 1) := by decide +kernel
theorem dL_endsIn_1 : decode cL_endsIn 1 = .ok (.iconst 0, 1) := by decide +kernel
theorem dL_endsIn_2 : decode cL_endsIn 2 = .ok (.aload_n 0, 1) := by decide +kernel
theorem dL_endsIn_3 : decode cL_endsIn 3 = .ok (.iload_n 1, 1) := by decide +kernel
theorem dL_endsIn_4 : decode cL_endsIn 4 = .ok (.invokevirtual 68, 3) := by decide +kernel
theorem dL_endsIn_7 : decode cL_endsIn 7 = .ok (.i2l, 1) := by decide +kernel
theorem dL_endsIn_8 : decode cL_endsIn 8 = .ok (.lastore, 1) := by decide +kernel
theorem dL_endsIn_9 : decode cL_endsIn 9 = .ok (.goto 6, 3) := by decide +kernel
theorem dL_endsIn_12 : decode cL_endsIn 12 = .ok (.astore_n 3, 1) := by decide +kernel
theorem dL_endsIn_13 : decode cL_endsIn 13 = .ok (.iconst 1, 1) := by decide +kernel
theorem dL_endsIn_14 : decode cL_endsIn 14 = .ok (.ireturn, 1) := by decide +kernel
theorem dL_endsIn_15 : decode cL_endsIn 15 = .ok (.iconst 0, 1) := by decide +kernel
theorem dL_endsIn_16 : decode cL_endsIn 16 = .ok (.ireturn, 1) := by decide +kernel
theorem dL_bestName_0 : decode cL_bestName 0 = .ok (.aload 4, 2) := by decide +kernel
theorem dL_bestName_2 : decode cL_bestName 2 = .ok (.iconst 0, 1) := by decide +kernel
theorem dL_bestName_3 : decode cL_bestName 3 = .ok (.aload_n 0, 1) := by decide +kernel
theorem dL_bestName_4 : decode cL_bestName 4 = .ok (.iload_n 1, 1) := by decide +kernel
theorem dL_bestName_5 : decode cL_bestName 5 = .ok (.iload_n 2, 1) := by decide +kernel
theorem dL_bestName_6 : decode cL_bestName 6 = .ok (.iload_n 3, 1) := by decide +kernel
theorem dL_bestName_7 : decode cL_bestName 7 = .ok (.invokevirtual 71, 3) := by decide +kernel
theorem dL_bestName_10 : decode cL_bestName 10 = .ok (.i2l, 1) := by decide +kernel
theorem dL_bestName_11 : decode cL_bestName 11 = .ok (.lastore, 1) := by decide +kernel
theorem dL_bestName_12 : decode cL_bestName 12 = .ok (.goto 11, 3) := by decide +kernel
theorem dL_bestName_15 : decode cL_bestName 15 = .ok (.astore 5, 2) := by decide +kernel
theorem dL_bestName_17 : decode cL_bestName 17 = .ok (.iconst 1, 1) := by decide +kernel
theorem dL_bestName_18 : decode cL_bestName 18 = .ok (.ireturn, 1) := by decide +kernel
theorem dL_bestName_19 : decode cL_bestName 19 = .ok (.astore 5, 2) := by decide +kernel
theorem dL_bestName_21 : decode cL_bestName 21 = .ok (.iconst 2, 1) := by decide +kernel
theorem dL_bestName_22 : decode cL_bestName 22 = .ok (.ireturn, 1) := by decide +kernel
theorem dL_bestName_23 : decode cL_bestName 23 = .ok (.iconst 0, 1) := by decide +kernel
theorem dL_bestName_24 : decode cL_bestName 24 = .ok (.ireturn, 1) := by decide +kernel
theorem dL_runScript_0 : decode cL_runScript 0 = .ok (.aload 4, 2) := by decide +kernel
theorem dL_runScript_2 : decode cL_runScript 2 = .ok (.iconst 0, 1) := by decide +kernel
theorem dL_runScript_3 : decode cL_runScript 3 = .ok (.aload_n 0, 1) := by decide +kernel
theorem dL_runScript_4 : decode cL_runScript 4 = .ok (.iload_n 1, 1) := by decide +kernel
theorem dL_runScript_5 : decode cL_runScript 5 = .ok (.lload_n 2, 1) := by decide +kernel
theorem dL_runScript_6 : decode cL_runScript 6 = .ok (.invokevirtual 74, 3) := by decide +kernel
theorem dL_runScript_9 : decode cL_runScript 9 = .ok (.i2l, 1) := by decide +kernel
theorem dL_runScript_10 : decode cL_runScript 10 = .ok (.lastore, 1) := by decide +kernel
theorem dL_runScript_11 : decode cL_runScript 11 = .ok (.goto 7, 3) := by decide +kernel
theorem dL_runScript_14 : decode cL_runScript 14 = .ok (.astore 5, 2) := by decide +kernel
theorem dL_runScript_16 : decode cL_runScript 16 = .ok (.iconst 1, 1) := by decide +kernel
theorem dL_runScript_17 : decode cL_runScript 17 = .ok (.ireturn, 1) := by decide +kernel
theorem dL_runScript_18 : decode cL_runScript 18 = .ok (.iconst 0, 1) := by decide +kernel
theorem dL_runScript_19 : decode cL_runScript 19 = .ok (.ireturn, 1) := by decide +kernel
theorem dL_simulate_0 : decode cL_simulate 0 = .ok (.aload 4, 2) := by decide +kernel
theorem dL_simulate_2 : decode cL_simulate 2 = .ok (.iconst 0, 1) := by decide +kernel
theorem dL_simulate_3 : decode cL_simulate 3 = .ok (.aload_n 0, 1) := by decide +kernel
theorem dL_simulate_4 : decode cL_simulate 4 = .ok (.lload_n 1, 1) := by decide +kernel
theorem dL_simulate_5 : decode cL_simulate 5 = .ok (.iload_n 3, 1) := by decide +kernel
theorem dL_simulate_6 : decode cL_simulate 6 = .ok (.invokevirtual 78, 3) := by decide +kernel
theorem dL_simulate_9 : decode cL_simulate 9 = .ok (.i2l, 1) := by decide +kernel
theorem dL_simulate_10 : decode cL_simulate 10 = .ok (.lastore, 1) := by decide +kernel
theorem dL_simulate_11 : decode cL_simulate 11 = .ok (.goto 7, 3) := by decide +kernel
theorem dL_simulate_14 : decode cL_simulate 14 = .ok (.astore 5, 2) := by decide +kernel
theorem dL_simulate_16 : decode cL_simulate 16 = .ok (.iconst 1, 1) := by decide +kernel
theorem dL_simulate_17 : decode cL_simulate 17 = .ok (.ireturn, 1) := by decide +kernel
theorem dL_simulate_18 : decode cL_simulate 18 = .ok (.iconst 0, 1) := by decide +kernel
theorem dL_simulate_19 : decode cL_simulate 19 = .ok (.ireturn, 1) := by decide +kernel
theorem dL_save_0 : decode cL_save 0 = .ok (.aload_n 2, 1) := by decide +kernel
theorem dL_save_1 : decode cL_save 1 = .ok (.iconst 0, 1) := by decide +kernel
theorem dL_save_2 : decode cL_save 2 = .ok (.aload_n 0, 1) := by decide +kernel
theorem dL_save_3 : decode cL_save 3 = .ok (.iload_n 1, 1) := by decide +kernel
theorem dL_save_4 : decode cL_save 4 = .ok (.invokevirtual 82, 3) := by decide +kernel
theorem dL_save_7 : decode cL_save 7 = .ok (.i2l, 1) := by decide +kernel
theorem dL_save_8 : decode cL_save 8 = .ok (.lastore, 1) := by decide +kernel
theorem dL_save_9 : decode cL_save 9 = .ok (.goto 6, 3) := by decide +kernel
theorem dL_save_12 : decode cL_save 12 = .ok (.astore_n 3, 1) := by decide +kernel
theorem dL_save_13 : decode cL_save 13 = .ok (.iconst 1, 1) := by decide +kernel
theorem dL_save_14 : decode cL_save 14 = .ok (.ireturn, 1) := by decide +kernel
theorem dL_save_15 : decode cL_save 15 = .ok (.iconst 0, 1) := by decide +kernel
theorem dL_save_16 : decode cL_save 16 = .ok (.ireturn, 1) := by decide +kernel
theorem dL_restore_0 : decode cL_restore 0 = .ok (.aload_n 2, 1) := by decide +kernel
theorem dL_restore_1 : decode cL_restore 1 = .ok (.iconst 0, 1) := by decide +kernel
theorem dL_restore_2 : decode cL_restore 2 = .ok (.aload_n 0, 1) := by decide +kernel
theorem dL_restore_3 : decode cL_restore 3 = .ok (.iload_n 1, 1) := by decide +kernel
theorem dL_restore_4 : decode cL_restore 4 = .ok (.invokevirtual 85, 3) := by decide +kernel
theorem dL_restore_7 : decode cL_restore 7 = .ok (.i2l, 1) := by decide +kernel
theorem dL_restore_8 : decode cL_restore 8 = .ok (.lastore, 1) := by decide +kernel
theorem dL_restore_9 : decode cL_restore 9 = .ok (.goto 9, 3) := by decide +kernel
theorem dL_restore_12 : decode cL_restore 12 = .ok (.astore_n 3, 1) := by decide +kernel
theorem dL_restore_13 : decode cL_restore 13 = .ok (.iconst 1, 1) := by decide +kernel
theorem dL_restore_14 : decode cL_restore 14 = .ok (.ireturn, 1) := by decide +kernel
theorem dL_restore_15 : decode cL_restore 15 = .ok (.astore_n 3, 1) := by decide +kernel
theorem dL_restore_16 : decode cL_restore 16 = .ok (.iconst 2, 1) := by decide +kernel
theorem dL_restore_17 : decode cL_restore 17 = .ok (.ireturn, 1) := by decide +kernel
theorem dL_restore_18 : decode cL_restore 18 = .ok (.iconst 0, 1) := by decide +kernel
theorem dL_restore_19 : decode cL_restore 19 = .ok (.ireturn, 1) := by decide +kernel
theorem dL_law_0 : decode cL_law 0 = .ok (.new 8, 3) := by decide +kernel
theorem dL_law_3 : decode cL_law 3 = .ok (.dup, 1) := by decide +kernel
theorem dL_law_4 : decode cL_law 4 = .ok (.invokespecial 88, 3) := by decide +kernel
theorem dL_law_7 : decode cL_law 7 = .ok (.astore_n 1, 1) := by decide +kernel
theorem dL_law_8 : decode cL_law 8 = .ok (.new 89, 3) := by decide +kernel
theorem dL_law_11 : decode cL_law 11 = .ok (.dup, 1) := by decide +kernel
theorem dL_law_12 : decode cL_law 12 = .ok (.invokespecial 91, 3) := by decide +kernel
theorem dL_law_15 : decode cL_law 15 = .ok (.astore_n 2, 1) := by decide +kernel
theorem dL_law_16 : decode cL_law 16 = .ok (.iconst 1, 1) := by decide +kernel
theorem dL_law_17 : decode cL_law 17 = .ok (.newarray .long, 2) := by decide +kernel
theorem dL_law_19 : decode cL_law 19 = .ok (.astore_n 3, 1) := by decide +kernel
theorem dL_law_20 : decode cL_law 20 = .ok (.iconst 0, 1) := by decide +kernel
theorem dL_law_21 : decode cL_law 21 = .ok (.istore 4, 2) := by decide +kernel
theorem dL_law_23 : decode cL_law 23 = .ok (.iload 4, 2) := by decide +kernel
theorem dL_law_25 : decode cL_law 25 = .ok (.aload_n 0, 1) := by decide +kernel
theorem dL_law_26 : decode cL_law 26 = .ok (.arraylength, 1) := by decide +kernel
theorem dL_law_27 : decode cL_law 27 = .ok (.iconst 5, 1) := by decide +kernel
theorem dL_law_28 : decode cL_law 28 = .ok (.isub, 1) := by decide +kernel
theorem dL_law_29 : decode cL_law 29 = .ok (.if_icmp .gt 1721, 3) := by decide +kernel
theorem dL_law_32 : decode cL_law 32 = .ok (.aload_n 0, 1) := by decide +kernel
theorem dL_law_33 : decode cL_law 33 = .ok (.iload 4, 2) := by decide +kernel
theorem dL_law_35 : decode cL_law 35 = .ok (.iaload, 1) := by decide +kernel
theorem dL_law_36 : decode cL_law 36 = .ok (.bipush 31, 2) := by decide +kernel
theorem dL_law_38 : decode cL_law 38 = .ok (.iand, 1) := by decide +kernel
theorem dL_law_39 : decode cL_law 39 = .ok (.tableswitch 1705 0 25 #[117, 173, 186, 199, 243, 299, 367, 435, 503, 559, 651, 731, 799, 891, 971, 1027, 1095, 1139, 1231, 1287, 1367, 1380, 1393, 1493, 1593, 1649], 117) := by decide +kernel
theorem dL_law_156 : decode cL_law 156 = .ok (.aload_n 1, 1) := by decide +kernel
theorem dL_law_157 : decode cL_law 157 = .ok (.aload_n 0, 1) := by decide +kernel
theorem dL_law_158 : decode cL_law 158 = .ok (.iload 4, 2) := by decide +kernel
theorem dL_law_160 : decode cL_law 160 = .ok (.iconst 1, 1) := by decide +kernel
theorem dL_law_161 : decode cL_law 161 = .ok (.iadd, 1) := by decide +kernel
theorem dL_law_162 : decode cL_law 162 = .ok (.iaload, 1) := by decide +kernel
theorem dL_law_163 : decode cL_law 163 = .ok (.aload_n 3, 1) := by decide +kernel
theorem dL_law_164 : decode cL_law 164 = .ok (.invokestatic 92, 3) := by decide +kernel
theorem dL_law_167 : decode cL_law 167 = .ok (.istore 5, 2) := by decide +kernel
theorem dL_law_169 : decode cL_law 169 = .ok (.aload_n 2, 1) := by decide +kernel
theorem dL_law_170 : decode cL_law 170 = .ok (.aload_n 0, 1) := by decide +kernel
theorem dL_law_171 : decode cL_law 171 = .ok (.iload 4, 2) := by decide +kernel
theorem dL_law_173 : decode cL_law 173 = .ok (.iconst 1, 1) := by decide +kernel
theorem dL_law_174 : decode cL_law 174 = .ok (.iadd, 1) := by decide +kernel
theorem dL_law_175 : decode cL_law 175 = .ok (.iaload, 1) := by decide +kernel
theorem dL_law_176 : decode cL_law 176 = .ok (.invokevirtual 97, 3) := by decide +kernel
theorem dL_law_179 : decode cL_law 179 = .ok (.istore 6, 2) := by decide +kernel
theorem dL_law_181 : decode cL_law 181 = .ok (.aload_n 2, 1) := by decide +kernel
theorem dL_law_182 : decode cL_law 182 = .ok (.invokevirtual 98, 3) := by decide +kernel
theorem dL_law_185 : decode cL_law 185 = .ok (.iload 5, 2) := by decide +kernel
theorem dL_law_187 : decode cL_law 187 = .ok (.if_icmp .eq 5, 3) := by decide +kernel
theorem dL_law_190 : decode cL_law 190 = .ok (.iconst 0, 1) := by decide +kernel
theorem dL_law_191 : decode cL_law 191 = .ok (.ireturn, 1) := by decide +kernel
theorem dL_law_192 : decode cL_law 192 = .ok (.iload 5, 2) := by decide +kernel
theorem dL_law_194 : decode cL_law 194 = .ok (.ifCond .ne 15, 3) := by decide +kernel
theorem dL_law_197 : decode cL_law 197 = .ok (.aload_n 3, 1) := by decide +kernel
theorem dL_law_198 : decode cL_law 198 = .ok (.iconst 0, 1) := by decide +kernel
theorem dL_law_199 : decode cL_law 199 = .ok (.laload, 1) := by decide +kernel
theorem dL_law_200 : decode cL_law 200 = .ok (.iload 6, 2) := by decide +kernel
theorem dL_law_202 : decode cL_law 202 = .ok (.i2l, 1) := by decide +kernel
theorem dL_law_203 : decode cL_law 203 = .ok (.lcmp, 1) := by decide +kernel
theorem dL_law_204 : decode cL_law 204 = .ok (.ifCond .eq 5, 3) := by decide +kernel
theorem dL_law_207 : decode cL_law 207 = .ok (.iconst 0, 1) := by decide +kernel
theorem dL_law_208 : decode cL_law 208 = .ok (.ireturn, 1) := by decide +kernel
theorem dL_law_209 : decode cL_law 209 = .ok (.goto 1535, 3) := by decide +kernel
theorem dL_law_212 : decode cL_law 212 = .ok (.aload_n 1, 1) := by decide +kernel
theorem dL_law_213 : decode cL_law 213 = .ok (.invokevirtual 101, 3) := by decide +kernel
theorem dL_law_216 : decode cL_law 216 = .ok (.aload_n 2, 1) := by decide +kernel
theorem dL_law_217 : decode cL_law 217 = .ok (.invokevirtual 104, 3) := by decide +kernel
theorem dL_law_220 : decode cL_law 220 = .ok (.if_icmp .eq 1524, 3) := by decide +kernel
theorem dL_law_223 : decode cL_law 223 = .ok (.iconst 0, 1) := by decide +kernel
theorem dL_law_224 : decode cL_law 224 = .ok (.ireturn, 1) := by decide +kernel
theorem dL_law_225 : decode cL_law 225 = .ok (.aload_n 1, 1) := by decide +kernel
theorem dL_law_226 : decode cL_law 226 = .ok (.invokevirtual 105, 3) := by decide +kernel
theorem dL_law_229 : decode cL_law 229 = .ok (.aload_n 2, 1) := by decide +kernel
theorem dL_law_230 : decode cL_law 230 = .ok (.invokevirtual 108, 3) := by decide +kernel
theorem dL_law_233 : decode cL_law 233 = .ok (.if_icmp .eq 1511, 3) := by decide +kernel
theorem dL_law_236 : decode cL_law 236 = .ok (.iconst 0, 1) := by decide +kernel
theorem dL_law_237 : decode cL_law 237 = .ok (.ireturn, 1) := by decide +kernel
theorem dL_law_238 : decode cL_law 238 = .ok (.aload_n 1, 1) := by decide +kernel
theorem dL_law_239 : decode cL_law 239 = .ok (.aload_n 3, 1) := by decide +kernel
theorem dL_law_240 : decode cL_law 240 = .ok (.invokestatic 109, 3) := by decide +kernel
theorem dL_law_243 : decode cL_law 243 = .ok (.istore 5, 2) := by decide +kernel
theorem dL_law_245 : decode cL_law 245 = .ok (.aload_n 2, 1) := by decide +kernel
theorem dL_law_246 : decode cL_law 246 = .ok (.invokevirtual 112, 3) := by decide +kernel
theorem dL_law_249 : decode cL_law 249 = .ok (.istore 6, 2) := by decide +kernel
theorem dL_law_251 : decode cL_law 251 = .ok (.aload_n 2, 1) := by decide +kernel
theorem dL_law_252 : decode cL_law 252 = .ok (.invokevirtual 98, 3) := by decide +kernel
theorem dL_law_255 : decode cL_law 255 = .ok (.iload 5, 2) := by decide +kernel
theorem dL_law_257 : decode cL_law 257 = .ok (.if_icmp .eq 5, 3) := by decide +kernel
theorem dL_law_260 : decode cL_law 260 = .ok (.iconst 0, 1) := by decide +kernel
theorem dL_law_261 : decode cL_law 261 = .ok (.ireturn, 1) := by decide +kernel
theorem dL_law_262 : decode cL_law 262 = .ok (.iload 5, 2) := by decide +kernel
theorem dL_law_264 : decode cL_law 264 = .ok (.ifCond .ne 15, 3) := by decide +kernel
theorem dL_law_267 : decode cL_law 267 = .ok (.aload_n 3, 1) := by decide +kernel
theorem dL_law_268 : decode cL_law 268 = .ok (.iconst 0, 1) := by decide +kernel
theorem dL_law_269 : decode cL_law 269 = .ok (.laload, 1) := by decide +kernel
theorem dL_law_270 : decode cL_law 270 = .ok (.iload 6, 2) := by decide +kernel
theorem dL_law_272 : decode cL_law 272 = .ok (.i2l, 1) := by decide +kernel
theorem dL_law_273 : decode cL_law 273 = .ok (.lcmp, 1) := by decide +kernel
theorem dL_law_274 : decode cL_law 274 = .ok (.ifCond .eq 5, 3) := by decide +kernel
theorem dL_law_277 : decode cL_law 277 = .ok (.iconst 0, 1) := by decide +kernel
theorem dL_law_278 : decode cL_law 278 = .ok (.ireturn, 1) := by decide +kernel
theorem dL_law_279 : decode cL_law 279 = .ok (.goto 1465, 3) := by decide +kernel
theorem dL_law_282 : decode cL_law 282 = .ok (.aload_n 1, 1) := by decide +kernel
theorem dL_law_283 : decode cL_law 283 = .ok (.aload_n 0, 1) := by decide +kernel
theorem dL_law_284 : decode cL_law 284 = .ok (.iload 4, 2) := by decide +kernel
theorem dL_law_286 : decode cL_law 286 = .ok (.iconst 1, 1) := by decide +kernel
theorem dL_law_287 : decode cL_law 287 = .ok (.iadd, 1) := by decide +kernel
theorem dL_law_288 : decode cL_law 288 = .ok (.iaload, 1) := by decide +kernel
theorem dL_law_289 : decode cL_law 289 = .ok (.aload_n 3, 1) := by decide +kernel
theorem dL_law_290 : decode cL_law 290 = .ok (.invokestatic 113, 3) := by decide +kernel
theorem dL_law_293 : decode cL_law 293 = .ok (.istore 5, 2) := by decide +kernel
theorem dL_law_295 : decode cL_law 295 = .ok (.aload_n 2, 1) := by decide +kernel
theorem dL_law_296 : decode cL_law 296 = .ok (.aload_n 0, 1) := by decide +kernel
theorem dL_law_297 : decode cL_law 297 = .ok (.iload 4, 2) := by decide +kernel
theorem dL_law_299 : decode cL_law 299 = .ok (.iconst 1, 1) := by decide +kernel
theorem dL_law_300 : decode cL_law 300 = .ok (.iadd, 1) := by decide +kernel
theorem dL_law_301 : decode cL_law 301 = .ok (.iaload, 1) := by decide +kernel
theorem dL_law_302 : decode cL_law 302 = .ok (.invokevirtual 115, 3) := by decide +kernel
theorem dL_law_305 : decode cL_law 305 = .ok (.istore 6, 2) := by decide +kernel
theorem dL_law_307 : decode cL_law 307 = .ok (.aload_n 2, 1) := by decide +kernel
theorem dL_law_308 : decode cL_law 308 = .ok (.invokevirtual 98, 3) := by decide +kernel
theorem dL_law_311 : decode cL_law 311 = .ok (.iload 5, 2) := by decide +kernel
theorem dL_law_313 : decode cL_law 313 = .ok (.if_icmp .eq 5, 3) := by decide +kernel
theorem dL_law_316 : decode cL_law 316 = .ok (.iconst 0, 1) := by decide +kernel
theorem dL_law_317 : decode cL_law 317 = .ok (.ireturn, 1) := by decide +kernel
theorem dL_law_318 : decode cL_law 318 = .ok (.iload 5, 2) := by decide +kernel
theorem dL_law_320 : decode cL_law 320 = .ok (.ifCond .ne 15, 3) := by decide +kernel
theorem dL_law_323 : decode cL_law 323 = .ok (.aload_n 3, 1) := by decide +kernel
theorem dL_law_324 : decode cL_law 324 = .ok (.iconst 0, 1) := by decide +kernel
theorem dL_law_325 : decode cL_law 325 = .ok (.laload, 1) := by decide +kernel
theorem dL_law_326 : decode cL_law 326 = .ok (.iload 6, 2) := by decide +kernel
theorem dL_law_328 : decode cL_law 328 = .ok (.i2l, 1) := by decide +kernel
theorem dL_law_329 : decode cL_law 329 = .ok (.lcmp, 1) := by decide +kernel
theorem dL_law_330 : decode cL_law 330 = .ok (.ifCond .eq 5, 3) := by decide +kernel
theorem dL_law_333 : decode cL_law 333 = .ok (.iconst 0, 1) := by decide +kernel
theorem dL_law_334 : decode cL_law 334 = .ok (.ireturn, 1) := by decide +kernel
theorem dL_law_335 : decode cL_law 335 = .ok (.goto 1409, 3) := by decide +kernel
theorem dL_law_338 : decode cL_law 338 = .ok (.aload_n 1, 1) := by decide +kernel
theorem dL_law_339 : decode cL_law 339 = .ok (.aload_n 0, 1) := by decide +kernel
theorem dL_law_340 : decode cL_law 340 = .ok (.iload 4, 2) := by decide +kernel
theorem dL_law_342 : decode cL_law 342 = .ok (.iconst 1, 1) := by decide +kernel
theorem dL_law_343 : decode cL_law 343 = .ok (.iadd, 1) := by decide +kernel
theorem dL_law_344 : decode cL_law 344 = .ok (.iaload, 1) := by decide +kernel
theorem dL_law_345 : decode cL_law 345 = .ok (.aload_n 0, 1) := by decide +kernel
theorem dL_law_346 : decode cL_law 346 = .ok (.iload 4, 2) := by decide +kernel
theorem dL_law_348 : decode cL_law 348 = .ok (.iconst 2, 1) := by decide +kernel
theorem dL_law_349 : decode cL_law 349 = .ok (.iadd, 1) := by decide +kernel
theorem dL_law_350 : decode cL_law 350 = .ok (.iaload, 1) := by decide +kernel
theorem dL_law_351 : decode cL_law 351 = .ok (.aload_n 3, 1) := by decide +kernel
theorem dL_law_352 : decode cL_law 352 = .ok (.invokestatic 116, 3) := by decide +kernel
theorem dL_law_355 : decode cL_law 355 = .ok (.istore 5, 2) := by decide +kernel
theorem dL_law_357 : decode cL_law 357 = .ok (.aload_n 2, 1) := by decide +kernel
theorem dL_law_358 : decode cL_law 358 = .ok (.aload_n 0, 1) := by decide +kernel
theorem dL_law_359 : decode cL_law 359 = .ok (.iload 4, 2) := by decide +kernel
theorem dL_law_361 : decode cL_law 361 = .ok (.iconst 1, 1) := by decide +kernel
theorem dL_law_362 : decode cL_law 362 = .ok (.iadd, 1) := by decide +kernel
theorem dL_law_363 : decode cL_law 363 = .ok (.iaload, 1) := by decide +kernel
theorem dL_law_364 : decode cL_law 364 = .ok (.aload_n 0, 1) := by decide +kernel
theorem dL_law_365 : decode cL_law 365 = .ok (.iload 4, 2) := by decide +kernel
theorem dL_law_367 : decode cL_law 367 = .ok (.iconst 2, 1) := by decide +kernel
theorem dL_law_368 : decode cL_law 368 = .ok (.iadd, 1) := by decide +kernel
theorem dL_law_369 : decode cL_law 369 = .ok (.iaload, 1) := by decide +kernel
theorem dL_law_370 : decode cL_law 370 = .ok (.invokevirtual 119, 3) := by decide +kernel
theorem dL_law_373 : decode cL_law 373 = .ok (.istore 6, 2) := by decide +kernel
theorem dL_law_375 : decode cL_law 375 = .ok (.aload_n 2, 1) := by decide +kernel
theorem dL_law_376 : decode cL_law 376 = .ok (.invokevirtual 98, 3) := by decide +kernel
theorem dL_law_379 : decode cL_law 379 = .ok (.iload 5, 2) := by decide +kernel
theorem dL_law_381 : decode cL_law 381 = .ok (.if_icmp .eq 5, 3) := by decide +kernel
theorem dL_law_384 : decode cL_law 384 = .ok (.iconst 0, 1) := by decide +kernel
theorem dL_law_385 : decode cL_law 385 = .ok (.ireturn, 1) := by decide +kernel
theorem dL_law_386 : decode cL_law 386 = .ok (.iload 5, 2) := by decide +kernel
theorem dL_law_388 : decode cL_law 388 = .ok (.ifCond .ne 15, 3) := by decide +kernel
theorem dL_law_391 : decode cL_law 391 = .ok (.aload_n 3, 1) := by decide +kernel
theorem dL_law_392 : decode cL_law 392 = .ok (.iconst 0, 1) := by decide +kernel
theorem dL_law_393 : decode cL_law 393 = .ok (.laload, 1) := by decide +kernel
theorem dL_law_394 : decode cL_law 394 = .ok (.iload 6, 2) := by decide +kernel
theorem dL_law_396 : decode cL_law 396 = .ok (.i2l, 1) := by decide +kernel
theorem dL_law_397 : decode cL_law 397 = .ok (.lcmp, 1) := by decide +kernel
theorem dL_law_398 : decode cL_law 398 = .ok (.ifCond .eq 5, 3) := by decide +kernel
theorem dL_law_401 : decode cL_law 401 = .ok (.iconst 0, 1) := by decide +kernel
theorem dL_law_402 : decode cL_law 402 = .ok (.ireturn, 1) := by decide +kernel
theorem dL_law_403 : decode cL_law 403 = .ok (.goto 1341, 3) := by decide +kernel
theorem dL_law_406 : decode cL_law 406 = .ok (.aload_n 1, 1) := by decide +kernel
theorem dL_law_407 : decode cL_law 407 = .ok (.aload_n 0, 1) := by decide +kernel
theorem dL_law_408 : decode cL_law 408 = .ok (.iload 4, 2) := by decide +kernel
theorem dL_law_410 : decode cL_law 410 = .ok (.iconst 1, 1) := by decide +kernel
theorem dL_law_411 : decode cL_law 411 = .ok (.iadd, 1) := by decide +kernel
theorem dL_law_412 : decode cL_law 412 = .ok (.iaload, 1) := by decide +kernel
theorem dL_law_413 : decode cL_law 413 = .ok (.aload_n 0, 1) := by decide +kernel
theorem dL_law_414 : decode cL_law 414 = .ok (.iload 4, 2) := by decide +kernel
theorem dL_law_416 : decode cL_law 416 = .ok (.iconst 2, 1) := by decide +kernel
theorem dL_law_417 : decode cL_law 417 = .ok (.iadd, 1) := by decide +kernel
theorem dL_law_418 : decode cL_law 418 = .ok (.iaload, 1) := by decide +kernel
theorem dL_law_419 : decode cL_law 419 = .ok (.aload_n 3, 1) := by decide +kernel
theorem dL_law_420 : decode cL_law 420 = .ok (.invokestatic 120, 3) := by decide +kernel
theorem dL_law_423 : decode cL_law 423 = .ok (.istore 5, 2) := by decide +kernel
theorem dL_law_425 : decode cL_law 425 = .ok (.aload_n 2, 1) := by decide +kernel
theorem dL_law_426 : decode cL_law 426 = .ok (.aload_n 0, 1) := by decide +kernel
theorem dL_law_427 : decode cL_law 427 = .ok (.iload 4, 2) := by decide +kernel
theorem dL_law_429 : decode cL_law 429 = .ok (.iconst 1, 1) := by decide +kernel
theorem dL_law_430 : decode cL_law 430 = .ok (.iadd, 1) := by decide +kernel
theorem dL_law_431 : decode cL_law 431 = .ok (.iaload, 1) := by decide +kernel
theorem dL_law_432 : decode cL_law 432 = .ok (.aload_n 0, 1) := by decide +kernel
theorem dL_law_433 : decode cL_law 433 = .ok (.iload 4, 2) := by decide +kernel
theorem dL_law_435 : decode cL_law 435 = .ok (.iconst 2, 1) := by decide +kernel
theorem dL_law_436 : decode cL_law 436 = .ok (.iadd, 1) := by decide +kernel
theorem dL_law_437 : decode cL_law 437 = .ok (.iaload, 1) := by decide +kernel
theorem dL_law_438 : decode cL_law 438 = .ok (.invokevirtual 122, 3) := by decide +kernel
theorem dL_law_441 : decode cL_law 441 = .ok (.istore 6, 2) := by decide +kernel
theorem dL_law_443 : decode cL_law 443 = .ok (.aload_n 2, 1) := by decide +kernel
theorem dL_law_444 : decode cL_law 444 = .ok (.invokevirtual 98, 3) := by decide +kernel
theorem dL_law_447 : decode cL_law 447 = .ok (.iload 5, 2) := by decide +kernel
theorem dL_law_449 : decode cL_law 449 = .ok (.if_icmp .eq 5, 3) := by decide +kernel
theorem dL_law_452 : decode cL_law 452 = .ok (.iconst 0, 1) := by decide +kernel
theorem dL_law_453 : decode cL_law 453 = .ok (.ireturn, 1) := by decide +kernel
theorem dL_law_454 : decode cL_law 454 = .ok (.iload 5, 2) := by decide +kernel
theorem dL_law_456 : decode cL_law 456 = .ok (.ifCond .ne 15, 3) := by decide +kernel
theorem dL_law_459 : decode cL_law 459 = .ok (.aload_n 3, 1) := by decide +kernel
theorem dL_law_460 : decode cL_law 460 = .ok (.iconst 0, 1) := by decide +kernel
theorem dL_law_461 : decode cL_law 461 = .ok (.laload, 1) := by decide +kernel
theorem dL_law_462 : decode cL_law 462 = .ok (.iload 6, 2) := by decide +kernel
theorem dL_law_464 : decode cL_law 464 = .ok (.i2l, 1) := by decide +kernel
theorem dL_law_465 : decode cL_law 465 = .ok (.lcmp, 1) := by decide +kernel
theorem dL_law_466 : decode cL_law 466 = .ok (.ifCond .eq 5, 3) := by decide +kernel
theorem dL_law_469 : decode cL_law 469 = .ok (.iconst 0, 1) := by decide +kernel
theorem dL_law_470 : decode cL_law 470 = .ok (.ireturn, 1) := by decide +kernel
theorem dL_law_471 : decode cL_law 471 = .ok (.goto 1273, 3) := by decide +kernel
theorem dL_law_474 : decode cL_law 474 = .ok (.aload_n 1, 1) := by decide +kernel
theorem dL_law_475 : decode cL_law 475 = .ok (.aload_n 0, 1) := by decide +kernel
theorem dL_law_476 : decode cL_law 476 = .ok (.iload 4, 2) := by decide +kernel
theorem dL_law_478 : decode cL_law 478 = .ok (.iconst 1, 1) := by decide +kernel
theorem dL_law_479 : decode cL_law 479 = .ok (.iadd, 1) := by decide +kernel
theorem dL_law_480 : decode cL_law 480 = .ok (.iaload, 1) := by decide +kernel
theorem dL_law_481 : decode cL_law 481 = .ok (.aload_n 0, 1) := by decide +kernel
theorem dL_law_482 : decode cL_law 482 = .ok (.iload 4, 2) := by decide +kernel
theorem dL_law_484 : decode cL_law 484 = .ok (.iconst 2, 1) := by decide +kernel
theorem dL_law_485 : decode cL_law 485 = .ok (.iadd, 1) := by decide +kernel
theorem dL_law_486 : decode cL_law 486 = .ok (.iaload, 1) := by decide +kernel
theorem dL_law_487 : decode cL_law 487 = .ok (.aload_n 3, 1) := by decide +kernel
theorem dL_law_488 : decode cL_law 488 = .ok (.invokestatic 123, 3) := by decide +kernel
theorem dL_law_491 : decode cL_law 491 = .ok (.istore 5, 2) := by decide +kernel
theorem dL_law_493 : decode cL_law 493 = .ok (.aload_n 2, 1) := by decide +kernel
theorem dL_law_494 : decode cL_law 494 = .ok (.aload_n 0, 1) := by decide +kernel
theorem dL_law_495 : decode cL_law 495 = .ok (.iload 4, 2) := by decide +kernel
theorem dL_law_497 : decode cL_law 497 = .ok (.iconst 1, 1) := by decide +kernel
theorem dL_law_498 : decode cL_law 498 = .ok (.iadd, 1) := by decide +kernel
theorem dL_law_499 : decode cL_law 499 = .ok (.iaload, 1) := by decide +kernel
theorem dL_law_500 : decode cL_law 500 = .ok (.aload_n 0, 1) := by decide +kernel
theorem dL_law_501 : decode cL_law 501 = .ok (.iload 4, 2) := by decide +kernel
theorem dL_law_503 : decode cL_law 503 = .ok (.iconst 2, 1) := by decide +kernel
theorem dL_law_504 : decode cL_law 504 = .ok (.iadd, 1) := by decide +kernel
theorem dL_law_505 : decode cL_law 505 = .ok (.iaload, 1) := by decide +kernel
theorem dL_law_506 : decode cL_law 506 = .ok (.invokevirtual 125, 3) := by decide +kernel
theorem dL_law_509 : decode cL_law 509 = .ok (.istore 6, 2) := by decide +kernel
theorem dL_law_511 : decode cL_law 511 = .ok (.aload_n 2, 1) := by decide +kernel
theorem dL_law_512 : decode cL_law 512 = .ok (.invokevirtual 98, 3) := by decide +kernel
theorem dL_law_515 : decode cL_law 515 = .ok (.iload 5, 2) := by decide +kernel
theorem dL_law_517 : decode cL_law 517 = .ok (.if_icmp .eq 5, 3) := by decide +kernel
theorem dL_law_520 : decode cL_law 520 = .ok (.iconst 0, 1) := by decide +kernel
theorem dL_law_521 : decode cL_law 521 = .ok (.ireturn, 1) := by decide +kernel
theorem dL_law_522 : decode cL_law 522 = .ok (.iload 5, 2) := by decide +kernel
theorem dL_law_524 : decode cL_law 524 = .ok (.ifCond .ne 15, 3) := by decide +kernel
theorem dL_law_527 : decode cL_law 527 = .ok (.aload_n 3, 1) := by decide +kernel
theorem dL_law_528 : decode cL_law 528 = .ok (.iconst 0, 1) := by decide +kernel
theorem dL_law_529 : decode cL_law 529 = .ok (.laload, 1) := by decide +kernel
theorem dL_law_530 : decode cL_law 530 = .ok (.iload 6, 2) := by decide +kernel
theorem dL_law_532 : decode cL_law 532 = .ok (.i2l, 1) := by decide +kernel
theorem dL_law_533 : decode cL_law 533 = .ok (.lcmp, 1) := by decide +kernel
theorem dL_law_534 : decode cL_law 534 = .ok (.ifCond .eq 5, 3) := by decide +kernel
theorem dL_law_537 : decode cL_law 537 = .ok (.iconst 0, 1) := by decide +kernel
theorem dL_law_538 : decode cL_law 538 = .ok (.ireturn, 1) := by decide +kernel
theorem dL_law_539 : decode cL_law 539 = .ok (.goto 1205, 3) := by decide +kernel
theorem dL_law_542 : decode cL_law 542 = .ok (.aload_n 1, 1) := by decide +kernel
theorem dL_law_543 : decode cL_law 543 = .ok (.aload_n 0, 1) := by decide +kernel
theorem dL_law_544 : decode cL_law 544 = .ok (.iload 4, 2) := by decide +kernel
theorem dL_law_546 : decode cL_law 546 = .ok (.iconst 1, 1) := by decide +kernel
theorem dL_law_547 : decode cL_law 547 = .ok (.iadd, 1) := by decide +kernel
theorem dL_law_548 : decode cL_law 548 = .ok (.iaload, 1) := by decide +kernel
theorem dL_law_549 : decode cL_law 549 = .ok (.aload_n 3, 1) := by decide +kernel
theorem dL_law_550 : decode cL_law 550 = .ok (.invokestatic 126, 3) := by decide +kernel
theorem dL_law_553 : decode cL_law 553 = .ok (.istore 5, 2) := by decide +kernel
theorem dL_law_555 : decode cL_law 555 = .ok (.aload_n 2, 1) := by decide +kernel
theorem dL_law_556 : decode cL_law 556 = .ok (.aload_n 0, 1) := by decide +kernel
theorem dL_law_557 : decode cL_law 557 = .ok (.iload 4, 2) := by decide +kernel
theorem dL_law_559 : decode cL_law 559 = .ok (.iconst 1, 1) := by decide +kernel
theorem dL_law_560 : decode cL_law 560 = .ok (.iadd, 1) := by decide +kernel
theorem dL_law_561 : decode cL_law 561 = .ok (.iaload, 1) := by decide +kernel
theorem dL_law_562 : decode cL_law 562 = .ok (.invokevirtual 128, 3) := by decide +kernel
theorem dL_law_565 : decode cL_law 565 = .ok (.istore 6, 2) := by decide +kernel
theorem dL_law_567 : decode cL_law 567 = .ok (.aload_n 2, 1) := by decide +kernel
theorem dL_law_568 : decode cL_law 568 = .ok (.invokevirtual 98, 3) := by decide +kernel
theorem dL_law_571 : decode cL_law 571 = .ok (.iload 5, 2) := by decide +kernel
theorem dL_law_573 : decode cL_law 573 = .ok (.if_icmp .eq 5, 3) := by decide +kernel
theorem dL_law_576 : decode cL_law 576 = .ok (.iconst 0, 1) := by decide +kernel
theorem dL_law_577 : decode cL_law 577 = .ok (.ireturn, 1) := by decide +kernel
theorem dL_law_578 : decode cL_law 578 = .ok (.iload 5, 2) := by decide +kernel
theorem dL_law_580 : decode cL_law 580 = .ok (.ifCond .ne 15, 3) := by decide +kernel
theorem dL_law_583 : decode cL_law 583 = .ok (.aload_n 3, 1) := by decide +kernel
theorem dL_law_584 : decode cL_law 584 = .ok (.iconst 0, 1) := by decide +kernel
theorem dL_law_585 : decode cL_law 585 = .ok (.laload, 1) := by decide +kernel
theorem dL_law_586 : decode cL_law 586 = .ok (.iload 6, 2) := by decide +kernel
theorem dL_law_588 : decode cL_law 588 = .ok (.i2l, 1) := by decide +kernel
theorem dL_law_589 : decode cL_law 589 = .ok (.lcmp, 1) := by decide +kernel
theorem dL_law_590 : decode cL_law 590 = .ok (.ifCond .eq 5, 3) := by decide +kernel
theorem dL_law_593 : decode cL_law 593 = .ok (.iconst 0, 1) := by decide +kernel
theorem dL_law_594 : decode cL_law 594 = .ok (.ireturn, 1) := by decide +kernel
theorem dL_law_595 : decode cL_law 595 = .ok (.goto 1149, 3) := by decide +kernel
theorem dL_law_598 : decode cL_law 598 = .ok (.aload_n 1, 1) := by decide +kernel
theorem dL_law_599 : decode cL_law 599 = .ok (.aload_n 0, 1) := by decide +kernel
theorem dL_law_600 : decode cL_law 600 = .ok (.iload 4, 2) := by decide +kernel
theorem dL_law_602 : decode cL_law 602 = .ok (.iconst 1, 1) := by decide +kernel
theorem dL_law_603 : decode cL_law 603 = .ok (.iadd, 1) := by decide +kernel
theorem dL_law_604 : decode cL_law 604 = .ok (.iaload, 1) := by decide +kernel
theorem dL_law_605 : decode cL_law 605 = .ok (.aload_n 0, 1) := by decide +kernel
theorem dL_law_606 : decode cL_law 606 = .ok (.iload 4, 2) := by decide +kernel
theorem dL_law_608 : decode cL_law 608 = .ok (.iconst 2, 1) := by decide +kernel
theorem dL_law_609 : decode cL_law 609 = .ok (.iadd, 1) := by decide +kernel
theorem dL_law_610 : decode cL_law 610 = .ok (.iaload, 1) := by decide +kernel
theorem dL_law_611 : decode cL_law 611 = .ok (.aload_n 0, 1) := by decide +kernel
theorem dL_law_612 : decode cL_law 612 = .ok (.iload 4, 2) := by decide +kernel
theorem dL_law_614 : decode cL_law 614 = .ok (.iconst 3, 1) := by decide +kernel
theorem dL_law_615 : decode cL_law 615 = .ok (.iadd, 1) := by decide +kernel
theorem dL_law_616 : decode cL_law 616 = .ok (.iaload, 1) := by decide +kernel
theorem dL_law_617 : decode cL_law 617 = .ok (.aload_n 0, 1) := by decide +kernel
theorem dL_law_618 : decode cL_law 618 = .ok (.iload 4, 2) := by decide +kernel
theorem dL_law_620 : decode cL_law 620 = .ok (.iconst 4, 1) := by decide +kernel
theorem dL_law_621 : decode cL_law 621 = .ok (.iadd, 1) := by decide +kernel
theorem dL_law_622 : decode cL_law 622 = .ok (.iaload, 1) := by decide +kernel
theorem dL_law_623 : decode cL_law 623 = .ok (.aload_n 3, 1) := by decide +kernel
theorem dL_law_624 : decode cL_law 624 = .ok (.invokestatic 129, 3) := by decide +kernel
theorem dL_law_627 : decode cL_law 627 = .ok (.istore 5, 2) := by decide +kernel
theorem dL_law_629 : decode cL_law 629 = .ok (.aload_n 2, 1) := by decide +kernel
theorem dL_law_630 : decode cL_law 630 = .ok (.aload_n 0, 1) := by decide +kernel
theorem dL_law_631 : decode cL_law 631 = .ok (.iload 4, 2) := by decide +kernel
theorem dL_law_633 : decode cL_law 633 = .ok (.iconst 1, 1) := by decide +kernel
theorem dL_law_634 : decode cL_law 634 = .ok (.iadd, 1) := by decide +kernel
theorem dL_law_635 : decode cL_law 635 = .ok (.iaload, 1) := by decide +kernel
theorem dL_law_636 : decode cL_law 636 = .ok (.aload_n 0, 1) := by decide +kernel
theorem dL_law_637 : decode cL_law 637 = .ok (.iload 4, 2) := by decide +kernel
theorem dL_law_639 : decode cL_law 639 = .ok (.iconst 2, 1) := by decide +kernel
theorem dL_law_640 : decode cL_law 640 = .ok (.iadd, 1) := by decide +kernel
theorem dL_law_641 : decode cL_law 641 = .ok (.iaload, 1) := by decide +kernel
theorem dL_law_642 : decode cL_law 642 = .ok (.aload_n 0, 1) := by decide +kernel
theorem dL_law_643 : decode cL_law 643 = .ok (.iload 4, 2) := by decide +kernel
theorem dL_law_645 : decode cL_law 645 = .ok (.iconst 3, 1) := by decide +kernel
theorem dL_law_646 : decode cL_law 646 = .ok (.iadd, 1) := by decide +kernel
theorem dL_law_647 : decode cL_law 647 = .ok (.iaload, 1) := by decide +kernel
theorem dL_law_648 : decode cL_law 648 = .ok (.aload_n 0, 1) := by decide +kernel
theorem dL_law_649 : decode cL_law 649 = .ok (.iload 4, 2) := by decide +kernel
theorem dL_law_651 : decode cL_law 651 = .ok (.iconst 4, 1) := by decide +kernel
theorem dL_law_652 : decode cL_law 652 = .ok (.iadd, 1) := by decide +kernel
theorem dL_law_653 : decode cL_law 653 = .ok (.iaload, 1) := by decide +kernel
theorem dL_law_654 : decode cL_law 654 = .ok (.invokevirtual 132, 3) := by decide +kernel
theorem dL_law_657 : decode cL_law 657 = .ok (.istore 6, 2) := by decide +kernel
theorem dL_law_659 : decode cL_law 659 = .ok (.aload_n 2, 1) := by decide +kernel
theorem dL_law_660 : decode cL_law 660 = .ok (.invokevirtual 98, 3) := by decide +kernel
theorem dL_law_663 : decode cL_law 663 = .ok (.iload 5, 2) := by decide +kernel
theorem dL_law_665 : decode cL_law 665 = .ok (.if_icmp .eq 5, 3) := by decide +kernel
theorem dL_law_668 : decode cL_law 668 = .ok (.iconst 0, 1) := by decide +kernel
theorem dL_law_669 : decode cL_law 669 = .ok (.ireturn, 1) := by decide +kernel
theorem dL_law_670 : decode cL_law 670 = .ok (.iload 5, 2) := by decide +kernel
theorem dL_law_672 : decode cL_law 672 = .ok (.ifCond .ne 15, 3) := by decide +kernel
theorem dL_law_675 : decode cL_law 675 = .ok (.aload_n 3, 1) := by decide +kernel
theorem dL_law_676 : decode cL_law 676 = .ok (.iconst 0, 1) := by decide +kernel
theorem dL_law_677 : decode cL_law 677 = .ok (.laload, 1) := by decide +kernel
theorem dL_law_678 : decode cL_law 678 = .ok (.iload 6, 2) := by decide +kernel
theorem dL_law_680 : decode cL_law 680 = .ok (.i2l, 1) := by decide +kernel
theorem dL_law_681 : decode cL_law 681 = .ok (.lcmp, 1) := by decide +kernel
theorem dL_law_682 : decode cL_law 682 = .ok (.ifCond .eq 5, 3) := by decide +kernel
theorem dL_law_685 : decode cL_law 685 = .ok (.iconst 0, 1) := by decide +kernel
theorem dL_law_686 : decode cL_law 686 = .ok (.ireturn, 1) := by decide +kernel
theorem dL_law_687 : decode cL_law 687 = .ok (.goto 1057, 3) := by decide +kernel
theorem dL_law_690 : decode cL_law 690 = .ok (.aload_n 1, 1) := by decide +kernel
theorem dL_law_691 : decode cL_law 691 = .ok (.aload_n 0, 1) := by decide +kernel
theorem dL_law_692 : decode cL_law 692 = .ok (.iload 4, 2) := by decide +kernel
theorem dL_law_694 : decode cL_law 694 = .ok (.iconst 1, 1) := by decide +kernel
theorem dL_law_695 : decode cL_law 695 = .ok (.iadd, 1) := by decide +kernel
theorem dL_law_696 : decode cL_law 696 = .ok (.iaload, 1) := by decide +kernel
theorem dL_law_697 : decode cL_law 697 = .ok (.aload_n 0, 1) := by decide +kernel
theorem dL_law_698 : decode cL_law 698 = .ok (.iload 4, 2) := by decide +kernel
theorem dL_law_700 : decode cL_law 700 = .ok (.iconst 2, 1) := by decide +kernel
theorem dL_law_701 : decode cL_law 701 = .ok (.iadd, 1) := by decide +kernel
theorem dL_law_702 : decode cL_law 702 = .ok (.iaload, 1) := by decide +kernel
theorem dL_law_703 : decode cL_law 703 = .ok (.aload_n 0, 1) := by decide +kernel
theorem dL_law_704 : decode cL_law 704 = .ok (.iload 4, 2) := by decide +kernel
theorem dL_law_706 : decode cL_law 706 = .ok (.iconst 3, 1) := by decide +kernel
theorem dL_law_707 : decode cL_law 707 = .ok (.iadd, 1) := by decide +kernel
theorem dL_law_708 : decode cL_law 708 = .ok (.iaload, 1) := by decide +kernel
theorem dL_law_709 : decode cL_law 709 = .ok (.aload_n 3, 1) := by decide +kernel
theorem dL_law_710 : decode cL_law 710 = .ok (.invokestatic 133, 3) := by decide +kernel
theorem dL_law_713 : decode cL_law 713 = .ok (.istore 5, 2) := by decide +kernel
theorem dL_law_715 : decode cL_law 715 = .ok (.aload_n 2, 1) := by decide +kernel
theorem dL_law_716 : decode cL_law 716 = .ok (.aload_n 0, 1) := by decide +kernel
theorem dL_law_717 : decode cL_law 717 = .ok (.iload 4, 2) := by decide +kernel
theorem dL_law_719 : decode cL_law 719 = .ok (.iconst 1, 1) := by decide +kernel
theorem dL_law_720 : decode cL_law 720 = .ok (.iadd, 1) := by decide +kernel
theorem dL_law_721 : decode cL_law 721 = .ok (.iaload, 1) := by decide +kernel
theorem dL_law_722 : decode cL_law 722 = .ok (.aload_n 0, 1) := by decide +kernel
theorem dL_law_723 : decode cL_law 723 = .ok (.iload 4, 2) := by decide +kernel
theorem dL_law_725 : decode cL_law 725 = .ok (.iconst 2, 1) := by decide +kernel
theorem dL_law_726 : decode cL_law 726 = .ok (.iadd, 1) := by decide +kernel
theorem dL_law_727 : decode cL_law 727 = .ok (.iaload, 1) := by decide +kernel
theorem dL_law_728 : decode cL_law 728 = .ok (.aload_n 0, 1) := by decide +kernel
theorem dL_law_729 : decode cL_law 729 = .ok (.iload 4, 2) := by decide +kernel
theorem dL_law_731 : decode cL_law 731 = .ok (.iconst 3, 1) := by decide +kernel
theorem dL_law_732 : decode cL_law 732 = .ok (.iadd, 1) := by decide +kernel
theorem dL_law_733 : decode cL_law 733 = .ok (.iaload, 1) := by decide +kernel
theorem dL_law_734 : decode cL_law 734 = .ok (.invokevirtual 136, 3) := by decide +kernel
theorem dL_law_737 : decode cL_law 737 = .ok (.istore 6, 2) := by decide +kernel
theorem dL_law_739 : decode cL_law 739 = .ok (.aload_n 2, 1) := by decide +kernel
theorem dL_law_740 : decode cL_law 740 = .ok (.invokevirtual 98, 3) := by decide +kernel
theorem dL_law_743 : decode cL_law 743 = .ok (.iload 5, 2) := by decide +kernel
theorem dL_law_745 : decode cL_law 745 = .ok (.if_icmp .eq 5, 3) := by decide +kernel
theorem dL_law_748 : decode cL_law 748 = .ok (.iconst 0, 1) := by decide +kernel
theorem dL_law_749 : decode cL_law 749 = .ok (.ireturn, 1) := by decide +kernel
theorem dL_law_750 : decode cL_law 750 = .ok (.iload 5, 2) := by decide +kernel
theorem dL_law_752 : decode cL_law 752 = .ok (.ifCond .ne 15, 3) := by decide +kernel
theorem dL_law_755 : decode cL_law 755 = .ok (.aload_n 3, 1) := by decide +kernel
theorem dL_law_756 : decode cL_law 756 = .ok (.iconst 0, 1) := by decide +kernel
theorem dL_law_757 : decode cL_law 757 = .ok (.laload, 1) := by decide +kernel
theorem dL_law_758 : decode cL_law 758 = .ok (.iload 6, 2) := by decide +kernel
theorem dL_law_760 : decode cL_law 760 = .ok (.i2l, 1) := by decide +kernel
theorem dL_law_761 : decode cL_law 761 = .ok (.lcmp, 1) := by decide +kernel
theorem dL_law_762 : decode cL_law 762 = .ok (.ifCond .eq 5, 3) := by decide +kernel
theorem dL_law_765 : decode cL_law 765 = .ok (.iconst 0, 1) := by decide +kernel
theorem dL_law_766 : decode cL_law 766 = .ok (.ireturn, 1) := by decide +kernel
theorem dL_law_767 : decode cL_law 767 = .ok (.goto 977, 3) := by decide +kernel
theorem dL_law_770 : decode cL_law 770 = .ok (.aload_n 1, 1) := by decide +kernel
theorem dL_law_771 : decode cL_law 771 = .ok (.aload_n 0, 1) := by decide +kernel
theorem dL_law_772 : decode cL_law 772 = .ok (.iload 4, 2) := by decide +kernel
theorem dL_law_774 : decode cL_law 774 = .ok (.iconst 1, 1) := by decide +kernel
theorem dL_law_775 : decode cL_law 775 = .ok (.iadd, 1) := by decide +kernel
theorem dL_law_776 : decode cL_law 776 = .ok (.iaload, 1) := by decide +kernel
theorem dL_law_777 : decode cL_law 777 = .ok (.aload_n 0, 1) := by decide +kernel
theorem dL_law_778 : decode cL_law 778 = .ok (.iload 4, 2) := by decide +kernel
theorem dL_law_780 : decode cL_law 780 = .ok (.iconst 2, 1) := by decide +kernel
theorem dL_law_781 : decode cL_law 781 = .ok (.iadd, 1) := by decide +kernel
theorem dL_law_782 : decode cL_law 782 = .ok (.iaload, 1) := by decide +kernel
theorem dL_law_783 : decode cL_law 783 = .ok (.aload_n 3, 1) := by decide +kernel
theorem dL_law_784 : decode cL_law 784 = .ok (.invokestatic 137, 3) := by decide +kernel
theorem dL_law_787 : decode cL_law 787 = .ok (.istore 5, 2) := by decide +kernel
theorem dL_law_789 : decode cL_law 789 = .ok (.aload_n 2, 1) := by decide +kernel
theorem dL_law_790 : decode cL_law 790 = .ok (.aload_n 0, 1) := by decide +kernel
theorem dL_law_791 : decode cL_law 791 = .ok (.iload 4, 2) := by decide +kernel
theorem dL_law_793 : decode cL_law 793 = .ok (.iconst 1, 1) := by decide +kernel
theorem dL_law_794 : decode cL_law 794 = .ok (.iadd, 1) := by decide +kernel
theorem dL_law_795 : decode cL_law 795 = .ok (.iaload, 1) := by decide +kernel
theorem dL_law_796 : decode cL_law 796 = .ok (.aload_n 0, 1) := by decide +kernel
theorem dL_law_797 : decode cL_law 797 = .ok (.iload 4, 2) := by decide +kernel
theorem dL_law_799 : decode cL_law 799 = .ok (.iconst 2, 1) := by decide +kernel
theorem dL_law_800 : decode cL_law 800 = .ok (.iadd, 1) := by decide +kernel
theorem dL_law_801 : decode cL_law 801 = .ok (.iaload, 1) := by decide +kernel
theorem dL_law_802 : decode cL_law 802 = .ok (.invokevirtual 139, 3) := by decide +kernel
theorem dL_law_805 : decode cL_law 805 = .ok (.istore 6, 2) := by decide +kernel
theorem dL_law_807 : decode cL_law 807 = .ok (.aload_n 2, 1) := by decide +kernel
theorem dL_law_808 : decode cL_law 808 = .ok (.invokevirtual 98, 3) := by decide +kernel
theorem dL_law_811 : decode cL_law 811 = .ok (.iload 5, 2) := by decide +kernel
theorem dL_law_813 : decode cL_law 813 = .ok (.if_icmp .eq 5, 3) := by decide +kernel
theorem dL_law_816 : decode cL_law 816 = .ok (.iconst 0, 1) := by decide +kernel
theorem dL_law_817 : decode cL_law 817 = .ok (.ireturn, 1) := by decide +kernel
theorem dL_law_818 : decode cL_law 818 = .ok (.iload 5, 2) := by decide +kernel
theorem dL_law_820 : decode cL_law 820 = .ok (.ifCond .ne 15, 3) := by decide +kernel
theorem dL_law_823 : decode cL_law 823 = .ok (.aload_n 3, 1) := by decide +kernel
theorem dL_law_824 : decode cL_law 824 = .ok (.iconst 0, 1) := by decide +kernel
theorem dL_law_825 : decode cL_law 825 = .ok (.laload, 1) := by decide +kernel
theorem dL_law_826 : decode cL_law 826 = .ok (.iload 6, 2) := by decide +kernel
theorem dL_law_828 : decode cL_law 828 = .ok (.i2l, 1) := by decide +kernel
theorem dL_law_829 : decode cL_law 829 = .ok (.lcmp, 1) := by decide +kernel
theorem dL_law_830 : decode cL_law 830 = .ok (.ifCond .eq 5, 3) := by decide +kernel
theorem dL_law_833 : decode cL_law 833 = .ok (.iconst 0, 1) := by decide +kernel
theorem dL_law_834 : decode cL_law 834 = .ok (.ireturn, 1) := by decide +kernel
theorem dL_law_835 : decode cL_law 835 = .ok (.goto 909, 3) := by decide +kernel
theorem dL_law_838 : decode cL_law 838 = .ok (.aload_n 1, 1) := by decide +kernel
theorem dL_law_839 : decode cL_law 839 = .ok (.aload_n 0, 1) := by decide +kernel
theorem dL_law_840 : decode cL_law 840 = .ok (.iload 4, 2) := by decide +kernel
theorem dL_law_842 : decode cL_law 842 = .ok (.iconst 1, 1) := by decide +kernel
theorem dL_law_843 : decode cL_law 843 = .ok (.iadd, 1) := by decide +kernel
theorem dL_law_844 : decode cL_law 844 = .ok (.iaload, 1) := by decide +kernel
theorem dL_law_845 : decode cL_law 845 = .ok (.aload_n 0, 1) := by decide +kernel
theorem dL_law_846 : decode cL_law 846 = .ok (.iload 4, 2) := by decide +kernel
theorem dL_law_848 : decode cL_law 848 = .ok (.iconst 2, 1) := by decide +kernel
theorem dL_law_849 : decode cL_law 849 = .ok (.iadd, 1) := by decide +kernel
theorem dL_law_850 : decode cL_law 850 = .ok (.iaload, 1) := by decide +kernel
theorem dL_law_851 : decode cL_law 851 = .ok (.aload_n 0, 1) := by decide +kernel
theorem dL_law_852 : decode cL_law 852 = .ok (.iload 4, 2) := by decide +kernel
theorem dL_law_854 : decode cL_law 854 = .ok (.iconst 3, 1) := by decide +kernel
theorem dL_law_855 : decode cL_law 855 = .ok (.iadd, 1) := by decide +kernel
theorem dL_law_856 : decode cL_law 856 = .ok (.iaload, 1) := by decide +kernel
theorem dL_law_857 : decode cL_law 857 = .ok (.aload_n 0, 1) := by decide +kernel
theorem dL_law_858 : decode cL_law 858 = .ok (.iload 4, 2) := by decide +kernel
theorem dL_law_860 : decode cL_law 860 = .ok (.iconst 4, 1) := by decide +kernel
theorem dL_law_861 : decode cL_law 861 = .ok (.iadd, 1) := by decide +kernel
theorem dL_law_862 : decode cL_law 862 = .ok (.iaload, 1) := by decide +kernel
theorem dL_law_863 : decode cL_law 863 = .ok (.aload_n 3, 1) := by decide +kernel
theorem dL_law_864 : decode cL_law 864 = .ok (.invokestatic 140, 3) := by decide +kernel
theorem dL_law_867 : decode cL_law 867 = .ok (.istore 5, 2) := by decide +kernel
theorem dL_law_869 : decode cL_law 869 = .ok (.aload_n 2, 1) := by decide +kernel
theorem dL_law_870 : decode cL_law 870 = .ok (.aload_n 0, 1) := by decide +kernel
theorem dL_law_871 : decode cL_law 871 = .ok (.iload 4, 2) := by decide +kernel
theorem dL_law_873 : decode cL_law 873 = .ok (.iconst 1, 1) := by decide +kernel
theorem dL_law_874 : decode cL_law 874 = .ok (.iadd, 1) := by decide +kernel
theorem dL_law_875 : decode cL_law 875 = .ok (.iaload, 1) := by decide +kernel
theorem dL_law_876 : decode cL_law 876 = .ok (.aload_n 0, 1) := by decide +kernel
theorem dL_law_877 : decode cL_law 877 = .ok (.iload 4, 2) := by decide +kernel
theorem dL_law_879 : decode cL_law 879 = .ok (.iconst 2, 1) := by decide +kernel
theorem dL_law_880 : decode cL_law 880 = .ok (.iadd, 1) := by decide +kernel
theorem dL_law_881 : decode cL_law 881 = .ok (.iaload, 1) := by decide +kernel
theorem dL_law_882 : decode cL_law 882 = .ok (.aload_n 0, 1) := by decide +kernel
theorem dL_law_883 : decode cL_law 883 = .ok (.iload 4, 2) := by decide +kernel
theorem dL_law_885 : decode cL_law 885 = .ok (.iconst 3, 1) := by decide +kernel
theorem dL_law_886 : decode cL_law 886 = .ok (.iadd, 1) := by decide +kernel
theorem dL_law_887 : decode cL_law 887 = .ok (.iaload, 1) := by decide +kernel
theorem dL_law_888 : decode cL_law 888 = .ok (.aload_n 0, 1) := by decide +kernel
theorem dL_law_889 : decode cL_law 889 = .ok (.iload 4, 2) := by decide +kernel
theorem dL_law_891 : decode cL_law 891 = .ok (.iconst 4, 1) := by decide +kernel
theorem dL_law_892 : decode cL_law 892 = .ok (.iadd, 1) := by decide +kernel
theorem dL_law_893 : decode cL_law 893 = .ok (.iaload, 1) := by decide +kernel
theorem dL_law_894 : decode cL_law 894 = .ok (.invokevirtual 142, 3) := by decide +kernel
theorem dL_law_897 : decode cL_law 897 = .ok (.istore 6, 2) := by decide +kernel
theorem dL_law_899 : decode cL_law 899 = .ok (.aload_n 2, 1) := by decide +kernel
theorem dL_law_900 : decode cL_law 900 = .ok (.invokevirtual 98, 3) := by decide +kernel
theorem dL_law_903 : decode cL_law 903 = .ok (.iload 5, 2) := by decide +kernel
theorem dL_law_905 : decode cL_law 905 = .ok (.if_icmp .eq 5, 3) := by decide +kernel
theorem dL_law_908 : decode cL_law 908 = .ok (.iconst 0, 1) := by decide +kernel
theorem dL_law_909 : decode cL_law 909 = .ok (.ireturn, 1) := by decide +kernel
theorem dL_law_910 : decode cL_law 910 = .ok (.iload 5, 2) := by decide +kernel
theorem dL_law_912 : decode cL_law 912 = .ok (.ifCond .ne 15, 3) := by decide +kernel
theorem dL_law_915 : decode cL_law 915 = .ok (.aload_n 3, 1) := by decide +kernel
theorem dL_law_916 : decode cL_law 916 = .ok (.iconst 0, 1) := by decide +kernel
theorem dL_law_917 : decode cL_law 917 = .ok (.laload, 1) := by decide +kernel
theorem dL_law_918 : decode cL_law 918 = .ok (.iload 6, 2) := by decide +kernel
theorem dL_law_920 : decode cL_law 920 = .ok (.i2l, 1) := by decide +kernel
theorem dL_law_921 : decode cL_law 921 = .ok (.lcmp, 1) := by decide +kernel
theorem dL_law_922 : decode cL_law 922 = .ok (.ifCond .eq 5, 3) := by decide +kernel
theorem dL_law_925 : decode cL_law 925 = .ok (.iconst 0, 1) := by decide +kernel
theorem dL_law_926 : decode cL_law 926 = .ok (.ireturn, 1) := by decide +kernel
theorem dL_law_927 : decode cL_law 927 = .ok (.goto 817, 3) := by decide +kernel
theorem dL_law_930 : decode cL_law 930 = .ok (.aload_n 1, 1) := by decide +kernel
theorem dL_law_931 : decode cL_law 931 = .ok (.aload_n 0, 1) := by decide +kernel
theorem dL_law_932 : decode cL_law 932 = .ok (.iload 4, 2) := by decide +kernel
theorem dL_law_934 : decode cL_law 934 = .ok (.iconst 1, 1) := by decide +kernel
theorem dL_law_935 : decode cL_law 935 = .ok (.iadd, 1) := by decide +kernel
theorem dL_law_936 : decode cL_law 936 = .ok (.iaload, 1) := by decide +kernel
theorem dL_law_937 : decode cL_law 937 = .ok (.aload_n 0, 1) := by decide +kernel
theorem dL_law_938 : decode cL_law 938 = .ok (.iload 4, 2) := by decide +kernel
theorem dL_law_940 : decode cL_law 940 = .ok (.iconst 2, 1) := by decide +kernel
theorem dL_law_941 : decode cL_law 941 = .ok (.iadd, 1) := by decide +kernel
theorem dL_law_942 : decode cL_law 942 = .ok (.iaload, 1) := by decide +kernel
theorem dL_law_943 : decode cL_law 943 = .ok (.aload_n 0, 1) := by decide +kernel
theorem dL_law_944 : decode cL_law 944 = .ok (.iload 4, 2) := by decide +kernel
theorem dL_law_946 : decode cL_law 946 = .ok (.iconst 3, 1) := by decide +kernel
theorem dL_law_947 : decode cL_law 947 = .ok (.iadd, 1) := by decide +kernel
theorem dL_law_948 : decode cL_law 948 = .ok (.iaload, 1) := by decide +kernel
theorem dL_law_949 : decode cL_law 949 = .ok (.aload_n 3, 1) := by decide +kernel
theorem dL_law_950 : decode cL_law 950 = .ok (.invokestatic 143, 3) := by decide +kernel
theorem dL_law_953 : decode cL_law 953 = .ok (.istore 5, 2) := by decide +kernel
theorem dL_law_955 : decode cL_law 955 = .ok (.aload_n 2, 1) := by decide +kernel
theorem dL_law_956 : decode cL_law 956 = .ok (.aload_n 0, 1) := by decide +kernel
theorem dL_law_957 : decode cL_law 957 = .ok (.iload 4, 2) := by decide +kernel
theorem dL_law_959 : decode cL_law 959 = .ok (.iconst 1, 1) := by decide +kernel
theorem dL_law_960 : decode cL_law 960 = .ok (.iadd, 1) := by decide +kernel
theorem dL_law_961 : decode cL_law 961 = .ok (.iaload, 1) := by decide +kernel
theorem dL_law_962 : decode cL_law 962 = .ok (.aload_n 0, 1) := by decide +kernel
theorem dL_law_963 : decode cL_law 963 = .ok (.iload 4, 2) := by decide +kernel
theorem dL_law_965 : decode cL_law 965 = .ok (.iconst 2, 1) := by decide +kernel
theorem dL_law_966 : decode cL_law 966 = .ok (.iadd, 1) := by decide +kernel
theorem dL_law_967 : decode cL_law 967 = .ok (.iaload, 1) := by decide +kernel
theorem dL_law_968 : decode cL_law 968 = .ok (.aload_n 0, 1) := by decide +kernel
theorem dL_law_969 : decode cL_law 969 = .ok (.iload 4, 2) := by decide +kernel
theorem dL_law_971 : decode cL_law 971 = .ok (.iconst 3, 1) := by decide +kernel
theorem dL_law_972 : decode cL_law 972 = .ok (.iadd, 1) := by decide +kernel
theorem dL_law_973 : decode cL_law 973 = .ok (.iaload, 1) := by decide +kernel
theorem dL_law_974 : decode cL_law 974 = .ok (.invokevirtual 145, 3) := by decide +kernel
theorem dL_law_977 : decode cL_law 977 = .ok (.istore 6, 2) := by decide +kernel
theorem dL_law_979 : decode cL_law 979 = .ok (.aload_n 2, 1) := by decide +kernel
theorem dL_law_980 : decode cL_law 980 = .ok (.invokevirtual 98, 3) := by decide +kernel
theorem dL_law_983 : decode cL_law 983 = .ok (.iload 5, 2) := by decide +kernel
theorem dL_law_985 : decode cL_law 985 = .ok (.if_icmp .eq 5, 3) := by decide +kernel
theorem dL_law_988 : decode cL_law 988 = .ok (.iconst 0, 1) := by decide +kernel
theorem dL_law_989 : decode cL_law 989 = .ok (.ireturn, 1) := by decide +kernel
theorem dL_law_990 : decode cL_law 990 = .ok (.iload 5, 2) := by decide +kernel
theorem dL_law_992 : decode cL_law 992 = .ok (.ifCond .ne 15, 3) := by decide +kernel
theorem dL_law_995 : decode cL_law 995 = .ok (.aload_n 3, 1) := by decide +kernel
theorem dL_law_996 : decode cL_law 996 = .ok (.iconst 0, 1) := by decide +kernel
theorem dL_law_997 : decode cL_law 997 = .ok (.laload, 1) := by decide +kernel
theorem dL_law_998 : decode cL_law 998 = .ok (.iload 6, 2) := by decide +kernel
theorem dL_law_1000 : decode cL_law 1000 = .ok (.i2l, 1) := by decide +kernel
theorem dL_law_1001 : decode cL_law 1001 = .ok (.lcmp, 1) := by decide +kernel
theorem dL_law_1002 : decode cL_law 1002 = .ok (.ifCond .eq 5, 3) := by decide +kernel
theorem dL_law_1005 : decode cL_law 1005 = .ok (.iconst 0, 1) := by decide +kernel
theorem dL_law_1006 : decode cL_law 1006 = .ok (.ireturn, 1) := by decide +kernel
theorem dL_law_1007 : decode cL_law 1007 = .ok (.goto 737, 3) := by decide +kernel
theorem dL_law_1010 : decode cL_law 1010 = .ok (.aload_n 1, 1) := by decide +kernel
theorem dL_law_1011 : decode cL_law 1011 = .ok (.aload_n 0, 1) := by decide +kernel
theorem dL_law_1012 : decode cL_law 1012 = .ok (.iload 4, 2) := by decide +kernel
theorem dL_law_1014 : decode cL_law 1014 = .ok (.iconst 1, 1) := by decide +kernel
theorem dL_law_1015 : decode cL_law 1015 = .ok (.iadd, 1) := by decide +kernel
theorem dL_law_1016 : decode cL_law 1016 = .ok (.iaload, 1) := by decide +kernel
theorem dL_law_1017 : decode cL_law 1017 = .ok (.aload_n 3, 1) := by decide +kernel
theorem dL_law_1018 : decode cL_law 1018 = .ok (.invokestatic 146, 3) := by decide +kernel
theorem dL_law_1021 : decode cL_law 1021 = .ok (.istore 5, 2) := by decide +kernel
theorem dL_law_1023 : decode cL_law 1023 = .ok (.aload_n 2, 1) := by decide +kernel
theorem dL_law_1024 : decode cL_law 1024 = .ok (.aload_n 0, 1) := by decide +kernel
theorem dL_law_1025 : decode cL_law 1025 = .ok (.iload 4, 2) := by decide +kernel
theorem dL_law_1027 : decode cL_law 1027 = .ok (.iconst 1, 1) := by decide +kernel
theorem dL_law_1028 : decode cL_law 1028 = .ok (.iadd, 1) := by decide +kernel
theorem dL_law_1029 : decode cL_law 1029 = .ok (.iaload, 1) := by decide +kernel
theorem dL_law_1030 : decode cL_law 1030 = .ok (.invokevirtual 148, 3) := by decide +kernel
theorem dL_law_1033 : decode cL_law 1033 = .ok (.istore 6, 2) := by decide +kernel
theorem dL_law_1035 : decode cL_law 1035 = .ok (.aload_n 2, 1) := by decide +kernel
theorem dL_law_1036 : decode cL_law 1036 = .ok (.invokevirtual 98, 3) := by decide +kernel
theorem dL_law_1039 : decode cL_law 1039 = .ok (.iload 5, 2) := by decide +kernel
theorem dL_law_1041 : decode cL_law 1041 = .ok (.if_icmp .eq 5, 3) := by decide +kernel
theorem dL_law_1044 : decode cL_law 1044 = .ok (.iconst 0, 1) := by decide +kernel
theorem dL_law_1045 : decode cL_law 1045 = .ok (.ireturn, 1) := by decide +kernel
theorem dL_law_1046 : decode cL_law 1046 = .ok (.iload 5, 2) := by decide +kernel
theorem dL_law_1048 : decode cL_law 1048 = .ok (.ifCond .ne 15, 3) := by decide +kernel
theorem dL_law_1051 : decode cL_law 1051 = .ok (.aload_n 3, 1) := by decide +kernel
theorem dL_law_1052 : decode cL_law 1052 = .ok (.iconst 0, 1) := by decide +kernel
theorem dL_law_1053 : decode cL_law 1053 = .ok (.laload, 1) := by decide +kernel
theorem dL_law_1054 : decode cL_law 1054 = .ok (.iload 6, 2) := by decide +kernel
theorem dL_law_1056 : decode cL_law 1056 = .ok (.i2l, 1) := by decide +kernel
theorem dL_law_1057 : decode cL_law 1057 = .ok (.lcmp, 1) := by decide +kernel
theorem dL_law_1058 : decode cL_law 1058 = .ok (.ifCond .eq 5, 3) := by decide +kernel
theorem dL_law_1061 : decode cL_law 1061 = .ok (.iconst 0, 1) := by decide +kernel
theorem dL_law_1062 : decode cL_law 1062 = .ok (.ireturn, 1) := by decide +kernel
theorem dL_law_1063 : decode cL_law 1063 = .ok (.goto 681, 3) := by decide +kernel
theorem dL_law_1066 : decode cL_law 1066 = .ok (.aload_n 1, 1) := by decide +kernel
theorem dL_law_1067 : decode cL_law 1067 = .ok (.aload_n 0, 1) := by decide +kernel
theorem dL_law_1068 : decode cL_law 1068 = .ok (.iload 4, 2) := by decide +kernel
theorem dL_law_1070 : decode cL_law 1070 = .ok (.iconst 1, 1) := by decide +kernel
theorem dL_law_1071 : decode cL_law 1071 = .ok (.iadd, 1) := by decide +kernel
theorem dL_law_1072 : decode cL_law 1072 = .ok (.iaload, 1) := by decide +kernel
theorem dL_law_1073 : decode cL_law 1073 = .ok (.aload_n 0, 1) := by decide +kernel
theorem dL_law_1074 : decode cL_law 1074 = .ok (.iload 4, 2) := by decide +kernel
theorem dL_law_1076 : decode cL_law 1076 = .ok (.iconst 2, 1) := by decide +kernel
theorem dL_law_1077 : decode cL_law 1077 = .ok (.iadd, 1) := by decide +kernel
theorem dL_law_1078 : decode cL_law 1078 = .ok (.iaload, 1) := by decide +kernel
theorem dL_law_1079 : decode cL_law 1079 = .ok (.aload_n 3, 1) := by decide +kernel
theorem dL_law_1080 : decode cL_law 1080 = .ok (.invokestatic 149, 3) := by decide +kernel
theorem dL_law_1083 : decode cL_law 1083 = .ok (.istore 5, 2) := by decide +kernel
theorem dL_law_1085 : decode cL_law 1085 = .ok (.aload_n 2, 1) := by decide +kernel
theorem dL_law_1086 : decode cL_law 1086 = .ok (.aload_n 0, 1) := by decide +kernel
theorem dL_law_1087 : decode cL_law 1087 = .ok (.iload 4, 2) := by decide +kernel
theorem dL_law_1089 : decode cL_law 1089 = .ok (.iconst 1, 1) := by decide +kernel
theorem dL_law_1090 : decode cL_law 1090 = .ok (.iadd, 1) := by decide +kernel
theorem dL_law_1091 : decode cL_law 1091 = .ok (.iaload, 1) := by decide +kernel
theorem dL_law_1092 : decode cL_law 1092 = .ok (.aload_n 0, 1) := by decide +kernel
theorem dL_law_1093 : decode cL_law 1093 = .ok (.iload 4, 2) := by decide +kernel
theorem dL_law_1095 : decode cL_law 1095 = .ok (.iconst 2, 1) := by decide +kernel
theorem dL_law_1096 : decode cL_law 1096 = .ok (.iadd, 1) := by decide +kernel
theorem dL_law_1097 : decode cL_law 1097 = .ok (.iaload, 1) := by decide +kernel
theorem dL_law_1098 : decode cL_law 1098 = .ok (.invokevirtual 151, 3) := by decide +kernel
theorem dL_law_1101 : decode cL_law 1101 = .ok (.istore 6, 2) := by decide +kernel
theorem dL_law_1103 : decode cL_law 1103 = .ok (.aload_n 2, 1) := by decide +kernel
theorem dL_law_1104 : decode cL_law 1104 = .ok (.invokevirtual 98, 3) := by decide +kernel
theorem dL_law_1107 : decode cL_law 1107 = .ok (.iload 5, 2) := by decide +kernel
theorem dL_law_1109 : decode cL_law 1109 = .ok (.if_icmp .eq 5, 3) := by decide +kernel
theorem dL_law_1112 : decode cL_law 1112 = .ok (.iconst 0, 1) := by decide +kernel
theorem dL_law_1113 : decode cL_law 1113 = .ok (.ireturn, 1) := by decide +kernel
theorem dL_law_1114 : decode cL_law 1114 = .ok (.iload 5, 2) := by decide +kernel
theorem dL_law_1116 : decode cL_law 1116 = .ok (.ifCond .ne 15, 3) := by decide +kernel
theorem dL_law_1119 : decode cL_law 1119 = .ok (.aload_n 3, 1) := by decide +kernel
theorem dL_law_1120 : decode cL_law 1120 = .ok (.iconst 0, 1) := by decide +kernel
theorem dL_law_1121 : decode cL_law 1121 = .ok (.laload, 1) := by decide +kernel
theorem dL_law_1122 : decode cL_law 1122 = .ok (.iload 6, 2) := by decide +kernel
theorem dL_law_1124 : decode cL_law 1124 = .ok (.i2l, 1) := by decide +kernel
theorem dL_law_1125 : decode cL_law 1125 = .ok (.lcmp, 1) := by decide +kernel
theorem dL_law_1126 : decode cL_law 1126 = .ok (.ifCond .eq 5, 3) := by decide +kernel
theorem dL_law_1129 : decode cL_law 1129 = .ok (.iconst 0, 1) := by decide +kernel
theorem dL_law_1130 : decode cL_law 1130 = .ok (.ireturn, 1) := by decide +kernel
theorem dL_law_1131 : decode cL_law 1131 = .ok (.goto 613, 3) := by decide +kernel
theorem dL_law_1134 : decode cL_law 1134 = .ok (.aload_n 1, 1) := by decide +kernel
theorem dL_law_1135 : decode cL_law 1135 = .ok (.aload_n 3, 1) := by decide +kernel
theorem dL_law_1136 : decode cL_law 1136 = .ok (.invokestatic 152, 3) := by decide +kernel
theorem dL_law_1139 : decode cL_law 1139 = .ok (.istore 5, 2) := by decide +kernel
theorem dL_law_1141 : decode cL_law 1141 = .ok (.aload_n 2, 1) := by decide +kernel
theorem dL_law_1142 : decode cL_law 1142 = .ok (.invokevirtual 154, 3) := by decide +kernel
theorem dL_law_1145 : decode cL_law 1145 = .ok (.istore 6, 2) := by decide +kernel
theorem dL_law_1147 : decode cL_law 1147 = .ok (.aload_n 2, 1) := by decide +kernel
theorem dL_law_1148 : decode cL_law 1148 = .ok (.invokevirtual 98, 3) := by decide +kernel
theorem dL_law_1151 : decode cL_law 1151 = .ok (.iload 5, 2) := by decide +kernel
theorem dL_law_1153 : decode cL_law 1153 = .ok (.if_icmp .eq 5, 3) := by decide +kernel
theorem dL_law_1156 : decode cL_law 1156 = .ok (.iconst 0, 1) := by decide +kernel
theorem dL_law_1157 : decode cL_law 1157 = .ok (.ireturn, 1) := by decide +kernel
theorem dL_law_1158 : decode cL_law 1158 = .ok (.iload 5, 2) := by decide +kernel
theorem dL_law_1160 : decode cL_law 1160 = .ok (.ifCond .ne 15, 3) := by decide +kernel
theorem dL_law_1163 : decode cL_law 1163 = .ok (.aload_n 3, 1) := by decide +kernel
theorem dL_law_1164 : decode cL_law 1164 = .ok (.iconst 0, 1) := by decide +kernel
theorem dL_law_1165 : decode cL_law 1165 = .ok (.laload, 1) := by decide +kernel
theorem dL_law_1166 : decode cL_law 1166 = .ok (.iload 6, 2) := by decide +kernel
theorem dL_law_1168 : decode cL_law 1168 = .ok (.i2l, 1) := by decide +kernel
theorem dL_law_1169 : decode cL_law 1169 = .ok (.lcmp, 1) := by decide +kernel
theorem dL_law_1170 : decode cL_law 1170 = .ok (.ifCond .eq 5, 3) := by decide +kernel
theorem dL_law_1173 : decode cL_law 1173 = .ok (.iconst 0, 1) := by decide +kernel
theorem dL_law_1174 : decode cL_law 1174 = .ok (.ireturn, 1) := by decide +kernel
theorem dL_law_1175 : decode cL_law 1175 = .ok (.goto 569, 3) := by decide +kernel
theorem dL_law_1178 : decode cL_law 1178 = .ok (.aload_n 1, 1) := by decide +kernel
theorem dL_law_1179 : decode cL_law 1179 = .ok (.aload_n 0, 1) := by decide +kernel
theorem dL_law_1180 : decode cL_law 1180 = .ok (.iload 4, 2) := by decide +kernel
theorem dL_law_1182 : decode cL_law 1182 = .ok (.iconst 1, 1) := by decide +kernel
theorem dL_law_1183 : decode cL_law 1183 = .ok (.iadd, 1) := by decide +kernel
theorem dL_law_1184 : decode cL_law 1184 = .ok (.iaload, 1) := by decide +kernel
theorem dL_law_1185 : decode cL_law 1185 = .ok (.aload_n 0, 1) := by decide +kernel
theorem dL_law_1186 : decode cL_law 1186 = .ok (.iload 4, 2) := by decide +kernel
theorem dL_law_1188 : decode cL_law 1188 = .ok (.iconst 2, 1) := by decide +kernel
theorem dL_law_1189 : decode cL_law 1189 = .ok (.iadd, 1) := by decide +kernel
theorem dL_law_1190 : decode cL_law 1190 = .ok (.iaload, 1) := by decide +kernel
theorem dL_law_1191 : decode cL_law 1191 = .ok (.aload_n 0, 1) := by decide +kernel
theorem dL_law_1192 : decode cL_law 1192 = .ok (.iload 4, 2) := by decide +kernel
theorem dL_law_1194 : decode cL_law 1194 = .ok (.iconst 3, 1) := by decide +kernel
theorem dL_law_1195 : decode cL_law 1195 = .ok (.iadd, 1) := by decide +kernel
theorem dL_law_1196 : decode cL_law 1196 = .ok (.iaload, 1) := by decide +kernel
theorem dL_law_1197 : decode cL_law 1197 = .ok (.aload_n 0, 1) := by decide +kernel
theorem dL_law_1198 : decode cL_law 1198 = .ok (.iload 4, 2) := by decide +kernel
theorem dL_law_1200 : decode cL_law 1200 = .ok (.iconst 4, 1) := by decide +kernel
theorem dL_law_1201 : decode cL_law 1201 = .ok (.iadd, 1) := by decide +kernel
theorem dL_law_1202 : decode cL_law 1202 = .ok (.iaload, 1) := by decide +kernel
theorem dL_law_1203 : decode cL_law 1203 = .ok (.aload_n 3, 1) := by decide +kernel
theorem dL_law_1204 : decode cL_law 1204 = .ok (.invokestatic 155, 3) := by decide +kernel
theorem dL_law_1207 : decode cL_law 1207 = .ok (.istore 5, 2) := by decide +kernel
theorem dL_law_1209 : decode cL_law 1209 = .ok (.aload_n 2, 1) := by decide +kernel
theorem dL_law_1210 : decode cL_law 1210 = .ok (.aload_n 0, 1) := by decide +kernel
theorem dL_law_1211 : decode cL_law 1211 = .ok (.iload 4, 2) := by decide +kernel
theorem dL_law_1213 : decode cL_law 1213 = .ok (.iconst 1, 1) := by decide +kernel
theorem dL_law_1214 : decode cL_law 1214 = .ok (.iadd, 1) := by decide +kernel
theorem dL_law_1215 : decode cL_law 1215 = .ok (.iaload, 1) := by decide +kernel
theorem dL_law_1216 : decode cL_law 1216 = .ok (.aload_n 0, 1) := by decide +kernel
theorem dL_law_1217 : decode cL_law 1217 = .ok (.iload 4, 2) := by decide +kernel
theorem dL_law_1219 : decode cL_law 1219 = .ok (.iconst 2, 1) := by decide +kernel
theorem dL_law_1220 : decode cL_law 1220 = .ok (.iadd, 1) := by decide +kernel
theorem dL_law_1221 : decode cL_law 1221 = .ok (.iaload, 1) := by decide +kernel
theorem dL_law_1222 : decode cL_law 1222 = .ok (.aload_n 0, 1) := by decide +kernel
theorem dL_law_1223 : decode cL_law 1223 = .ok (.iload 4, 2) := by decide +kernel
theorem dL_law_1225 : decode cL_law 1225 = .ok (.iconst 3, 1) := by decide +kernel
theorem dL_law_1226 : decode cL_law 1226 = .ok (.iadd, 1) := by decide +kernel
theorem dL_law_1227 : decode cL_law 1227 = .ok (.iaload, 1) := by decide +kernel
theorem dL_law_1228 : decode cL_law 1228 = .ok (.aload_n 0, 1) := by decide +kernel
theorem dL_law_1229 : decode cL_law 1229 = .ok (.iload 4, 2) := by decide +kernel
theorem dL_law_1231 : decode cL_law 1231 = .ok (.iconst 4, 1) := by decide +kernel
theorem dL_law_1232 : decode cL_law 1232 = .ok (.iadd, 1) := by decide +kernel
theorem dL_law_1233 : decode cL_law 1233 = .ok (.iaload, 1) := by decide +kernel
theorem dL_law_1234 : decode cL_law 1234 = .ok (.invokevirtual 157, 3) := by decide +kernel
theorem dL_law_1237 : decode cL_law 1237 = .ok (.istore 6, 2) := by decide +kernel
theorem dL_law_1239 : decode cL_law 1239 = .ok (.aload_n 2, 1) := by decide +kernel
theorem dL_law_1240 : decode cL_law 1240 = .ok (.invokevirtual 98, 3) := by decide +kernel
theorem dL_law_1243 : decode cL_law 1243 = .ok (.iload 5, 2) := by decide +kernel
theorem dL_law_1245 : decode cL_law 1245 = .ok (.if_icmp .eq 5, 3) := by decide +kernel
theorem dL_law_1248 : decode cL_law 1248 = .ok (.iconst 0, 1) := by decide +kernel
theorem dL_law_1249 : decode cL_law 1249 = .ok (.ireturn, 1) := by decide +kernel
theorem dL_law_1250 : decode cL_law 1250 = .ok (.iload 5, 2) := by decide +kernel
theorem dL_law_1252 : decode cL_law 1252 = .ok (.ifCond .ne 15, 3) := by decide +kernel
theorem dL_law_1255 : decode cL_law 1255 = .ok (.aload_n 3, 1) := by decide +kernel
theorem dL_law_1256 : decode cL_law 1256 = .ok (.iconst 0, 1) := by decide +kernel
theorem dL_law_1257 : decode cL_law 1257 = .ok (.laload, 1) := by decide +kernel
theorem dL_law_1258 : decode cL_law 1258 = .ok (.iload 6, 2) := by decide +kernel
theorem dL_law_1260 : decode cL_law 1260 = .ok (.i2l, 1) := by decide +kernel
theorem dL_law_1261 : decode cL_law 1261 = .ok (.lcmp, 1) := by decide +kernel
theorem dL_law_1262 : decode cL_law 1262 = .ok (.ifCond .eq 5, 3) := by decide +kernel
theorem dL_law_1265 : decode cL_law 1265 = .ok (.iconst 0, 1) := by decide +kernel
theorem dL_law_1266 : decode cL_law 1266 = .ok (.ireturn, 1) := by decide +kernel
theorem dL_law_1267 : decode cL_law 1267 = .ok (.goto 477, 3) := by decide +kernel
theorem dL_law_1270 : decode cL_law 1270 = .ok (.aload_n 1, 1) := by decide +kernel
theorem dL_law_1271 : decode cL_law 1271 = .ok (.aload_n 0, 1) := by decide +kernel
theorem dL_law_1272 : decode cL_law 1272 = .ok (.iload 4, 2) := by decide +kernel
theorem dL_law_1274 : decode cL_law 1274 = .ok (.iconst 1, 1) := by decide +kernel
theorem dL_law_1275 : decode cL_law 1275 = .ok (.iadd, 1) := by decide +kernel
theorem dL_law_1276 : decode cL_law 1276 = .ok (.iaload, 1) := by decide +kernel
theorem dL_law_1277 : decode cL_law 1277 = .ok (.aload_n 3, 1) := by decide +kernel
theorem dL_law_1278 : decode cL_law 1278 = .ok (.invokestatic 158, 3) := by decide +kernel
theorem dL_law_1281 : decode cL_law 1281 = .ok (.istore 5, 2) := by decide +kernel
theorem dL_law_1283 : decode cL_law 1283 = .ok (.aload_n 2, 1) := by decide +kernel
theorem dL_law_1284 : decode cL_law 1284 = .ok (.aload_n 0, 1) := by decide +kernel
theorem dL_law_1285 : decode cL_law 1285 = .ok (.iload 4, 2) := by decide +kernel
theorem dL_law_1287 : decode cL_law 1287 = .ok (.iconst 1, 1) := by decide +kernel
theorem dL_law_1288 : decode cL_law 1288 = .ok (.iadd, 1) := by decide +kernel
theorem dL_law_1289 : decode cL_law 1289 = .ok (.iaload, 1) := by decide +kernel
theorem dL_law_1290 : decode cL_law 1290 = .ok (.invokevirtual 160, 3) := by decide +kernel
theorem dL_law_1293 : decode cL_law 1293 = .ok (.istore 6, 2) := by decide +kernel
theorem dL_law_1295 : decode cL_law 1295 = .ok (.aload_n 2, 1) := by decide +kernel
theorem dL_law_1296 : decode cL_law 1296 = .ok (.invokevirtual 98, 3) := by decide +kernel
theorem dL_law_1299 : decode cL_law 1299 = .ok (.iload 5, 2) := by decide +kernel
theorem dL_law_1301 : decode cL_law 1301 = .ok (.if_icmp .eq 5, 3) := by decide +kernel
theorem dL_law_1304 : decode cL_law 1304 = .ok (.iconst 0, 1) := by decide +kernel
theorem dL_law_1305 : decode cL_law 1305 = .ok (.ireturn, 1) := by decide +kernel
theorem dL_law_1306 : decode cL_law 1306 = .ok (.iload 5, 2) := by decide +kernel
theorem dL_law_1308 : decode cL_law 1308 = .ok (.ifCond .ne 15, 3) := by decide +kernel
theorem dL_law_1311 : decode cL_law 1311 = .ok (.aload_n 3, 1) := by decide +kernel
theorem dL_law_1312 : decode cL_law 1312 = .ok (.iconst 0, 1) := by decide +kernel
theorem dL_law_1313 : decode cL_law 1313 = .ok (.laload, 1) := by decide +kernel
theorem dL_law_1314 : decode cL_law 1314 = .ok (.iload 6, 2) := by decide +kernel
theorem dL_law_1316 : decode cL_law 1316 = .ok (.i2l, 1) := by decide +kernel
theorem dL_law_1317 : decode cL_law 1317 = .ok (.lcmp, 1) := by decide +kernel
theorem dL_law_1318 : decode cL_law 1318 = .ok (.ifCond .eq 5, 3) := by decide +kernel
theorem dL_law_1321 : decode cL_law 1321 = .ok (.iconst 0, 1) := by decide +kernel
theorem dL_law_1322 : decode cL_law 1322 = .ok (.ireturn, 1) := by decide +kernel
theorem dL_law_1323 : decode cL_law 1323 = .ok (.goto 421, 3) := by decide +kernel
theorem dL_law_1326 : decode cL_law 1326 = .ok (.aload_n 1, 1) := by decide +kernel
theorem dL_law_1327 : decode cL_law 1327 = .ok (.aload_n 0, 1) := by decide +kernel
theorem dL_law_1328 : decode cL_law 1328 = .ok (.iload 4, 2) := by decide +kernel
theorem dL_law_1330 : decode cL_law 1330 = .ok (.iconst 1, 1) := by decide +kernel
theorem dL_law_1331 : decode cL_law 1331 = .ok (.iadd, 1) := by decide +kernel
theorem dL_law_1332 : decode cL_law 1332 = .ok (.iaload, 1) := by decide +kernel
theorem dL_law_1333 : decode cL_law 1333 = .ok (.aload_n 0, 1) := by decide +kernel
theorem dL_law_1334 : decode cL_law 1334 = .ok (.iload 4, 2) := by decide +kernel
theorem dL_law_1336 : decode cL_law 1336 = .ok (.iconst 2, 1) := by decide +kernel
theorem dL_law_1337 : decode cL_law 1337 = .ok (.iadd, 1) := by decide +kernel
theorem dL_law_1338 : decode cL_law 1338 = .ok (.iaload, 1) := by decide +kernel
theorem dL_law_1339 : decode cL_law 1339 = .ok (.aload_n 0, 1) := by decide +kernel
theorem dL_law_1340 : decode cL_law 1340 = .ok (.iload 4, 2) := by decide +kernel
theorem dL_law_1342 : decode cL_law 1342 = .ok (.iconst 3, 1) := by decide +kernel
theorem dL_law_1343 : decode cL_law 1343 = .ok (.iadd, 1) := by decide +kernel
theorem dL_law_1344 : decode cL_law 1344 = .ok (.iaload, 1) := by decide +kernel
theorem dL_law_1345 : decode cL_law 1345 = .ok (.aload_n 3, 1) := by decide +kernel
theorem dL_law_1346 : decode cL_law 1346 = .ok (.invokestatic 161, 3) := by decide +kernel
theorem dL_law_1349 : decode cL_law 1349 = .ok (.istore 5, 2) := by decide +kernel
theorem dL_law_1351 : decode cL_law 1351 = .ok (.aload_n 2, 1) := by decide +kernel
theorem dL_law_1352 : decode cL_law 1352 = .ok (.aload_n 0, 1) := by decide +kernel
theorem dL_law_1353 : decode cL_law 1353 = .ok (.iload 4, 2) := by decide +kernel
theorem dL_law_1355 : decode cL_law 1355 = .ok (.iconst 1, 1) := by decide +kernel
theorem dL_law_1356 : decode cL_law 1356 = .ok (.iadd, 1) := by decide +kernel
theorem dL_law_1357 : decode cL_law 1357 = .ok (.iaload, 1) := by decide +kernel
theorem dL_law_1358 : decode cL_law 1358 = .ok (.aload_n 0, 1) := by decide +kernel
theorem dL_law_1359 : decode cL_law 1359 = .ok (.iload 4, 2) := by decide +kernel
theorem dL_law_1361 : decode cL_law 1361 = .ok (.iconst 2, 1) := by decide +kernel
theorem dL_law_1362 : decode cL_law 1362 = .ok (.iadd, 1) := by decide +kernel
theorem dL_law_1363 : decode cL_law 1363 = .ok (.iaload, 1) := by decide +kernel
theorem dL_law_1364 : decode cL_law 1364 = .ok (.aload_n 0, 1) := by decide +kernel
theorem dL_law_1365 : decode cL_law 1365 = .ok (.iload 4, 2) := by decide +kernel
theorem dL_law_1367 : decode cL_law 1367 = .ok (.iconst 3, 1) := by decide +kernel
theorem dL_law_1368 : decode cL_law 1368 = .ok (.iadd, 1) := by decide +kernel
theorem dL_law_1369 : decode cL_law 1369 = .ok (.iaload, 1) := by decide +kernel
theorem dL_law_1370 : decode cL_law 1370 = .ok (.invokevirtual 163, 3) := by decide +kernel
theorem dL_law_1373 : decode cL_law 1373 = .ok (.istore 6, 2) := by decide +kernel
theorem dL_law_1375 : decode cL_law 1375 = .ok (.aload_n 2, 1) := by decide +kernel
theorem dL_law_1376 : decode cL_law 1376 = .ok (.invokevirtual 98, 3) := by decide +kernel
theorem dL_law_1379 : decode cL_law 1379 = .ok (.iload 5, 2) := by decide +kernel
theorem dL_law_1381 : decode cL_law 1381 = .ok (.if_icmp .eq 5, 3) := by decide +kernel
theorem dL_law_1384 : decode cL_law 1384 = .ok (.iconst 0, 1) := by decide +kernel
theorem dL_law_1385 : decode cL_law 1385 = .ok (.ireturn, 1) := by decide +kernel
theorem dL_law_1386 : decode cL_law 1386 = .ok (.iload 5, 2) := by decide +kernel
theorem dL_law_1388 : decode cL_law 1388 = .ok (.ifCond .ne 15, 3) := by decide +kernel
theorem dL_law_1391 : decode cL_law 1391 = .ok (.aload_n 3, 1) := by decide +kernel
theorem dL_law_1392 : decode cL_law 1392 = .ok (.iconst 0, 1) := by decide +kernel
theorem dL_law_1393 : decode cL_law 1393 = .ok (.laload, 1) := by decide +kernel
theorem dL_law_1394 : decode cL_law 1394 = .ok (.iload 6, 2) := by decide +kernel
theorem dL_law_1396 : decode cL_law 1396 = .ok (.i2l, 1) := by decide +kernel
theorem dL_law_1397 : decode cL_law 1397 = .ok (.lcmp, 1) := by decide +kernel
theorem dL_law_1398 : decode cL_law 1398 = .ok (.ifCond .eq 5, 3) := by decide +kernel
theorem dL_law_1401 : decode cL_law 1401 = .ok (.iconst 0, 1) := by decide +kernel
theorem dL_law_1402 : decode cL_law 1402 = .ok (.ireturn, 1) := by decide +kernel
theorem dL_law_1403 : decode cL_law 1403 = .ok (.goto 341, 3) := by decide +kernel
theorem dL_law_1406 : decode cL_law 1406 = .ok (.aload_n 1, 1) := by decide +kernel
theorem dL_law_1407 : decode cL_law 1407 = .ok (.invokevirtual 164, 3) := by decide +kernel
theorem dL_law_1410 : decode cL_law 1410 = .ok (.aload_n 2, 1) := by decide +kernel
theorem dL_law_1411 : decode cL_law 1411 = .ok (.invokevirtual 167, 3) := by decide +kernel
theorem dL_law_1414 : decode cL_law 1414 = .ok (.if_icmp .eq 330, 3) := by decide +kernel
theorem dL_law_1417 : decode cL_law 1417 = .ok (.iconst 0, 1) := by decide +kernel
theorem dL_law_1418 : decode cL_law 1418 = .ok (.ireturn, 1) := by decide +kernel
theorem dL_law_1419 : decode cL_law 1419 = .ok (.aload_n 1, 1) := by decide +kernel
theorem dL_law_1420 : decode cL_law 1420 = .ok (.invokevirtual 168, 3) := by decide +kernel
theorem dL_law_1423 : decode cL_law 1423 = .ok (.aload_n 2, 1) := by decide +kernel
theorem dL_law_1424 : decode cL_law 1424 = .ok (.invokevirtual 171, 3) := by decide +kernel
theorem dL_law_1427 : decode cL_law 1427 = .ok (.if_icmp .eq 317, 3) := by decide +kernel
theorem dL_law_1430 : decode cL_law 1430 = .ok (.iconst 0, 1) := by decide +kernel
theorem dL_law_1431 : decode cL_law 1431 = .ok (.ireturn, 1) := by decide +kernel
theorem dL_law_1432 : decode cL_law 1432 = .ok (.aload_n 1, 1) := by decide +kernel
theorem dL_law_1433 : decode cL_law 1433 = .ok (.aload_n 0, 1) := by decide +kernel
theorem dL_law_1434 : decode cL_law 1434 = .ok (.iload 4, 2) := by decide +kernel
theorem dL_law_1436 : decode cL_law 1436 = .ok (.iconst 1, 1) := by decide +kernel
theorem dL_law_1437 : decode cL_law 1437 = .ok (.iadd, 1) := by decide +kernel
theorem dL_law_1438 : decode cL_law 1438 = .ok (.iaload, 1) := by decide +kernel
theorem dL_law_1439 : decode cL_law 1439 = .ok (.aload_n 0, 1) := by decide +kernel
theorem dL_law_1440 : decode cL_law 1440 = .ok (.iload 4, 2) := by decide +kernel
theorem dL_law_1442 : decode cL_law 1442 = .ok (.iconst 2, 1) := by decide +kernel
theorem dL_law_1443 : decode cL_law 1443 = .ok (.iadd, 1) := by decide +kernel
theorem dL_law_1444 : decode cL_law 1444 = .ok (.iaload, 1) := by decide +kernel
theorem dL_law_1445 : decode cL_law 1445 = .ok (.i2l, 1) := by decide +kernel
theorem dL_law_1446 : decode cL_law 1446 = .ok (.bipush 32, 2) := by decide +kernel
theorem dL_law_1448 : decode cL_law 1448 = .ok (.lshl, 1) := by decide +kernel
theorem dL_law_1449 : decode cL_law 1449 = .ok (.aload_n 0, 1) := by decide +kernel
theorem dL_law_1450 : decode cL_law 1450 = .ok (.iload 4, 2) := by decide +kernel
theorem dL_law_1452 : decode cL_law 1452 = .ok (.iconst 3, 1) := by decide +kernel
theorem dL_law_1453 : decode cL_law 1453 = .ok (.iadd, 1) := by decide +kernel
theorem dL_law_1454 : decode cL_law 1454 = .ok (.iaload, 1) := by decide +kernel
theorem dL_law_1455 : decode cL_law 1455 = .ok (.i2l, 1) := by decide +kernel
theorem dL_law_1456 : decode cL_law 1456 = .ok (.ldc2_w 172, 3) := by decide +kernel
theorem dL_law_1459 : decode cL_law 1459 = .ok (.land, 1) := by decide +kernel
theorem dL_law_1460 : decode cL_law 1460 = .ok (.lor, 1) := by decide +kernel
theorem dL_law_1461 : decode cL_law 1461 = .ok (.aload_n 3, 1) := by decide +kernel
theorem dL_law_1462 : decode cL_law 1462 = .ok (.invokestatic 174, 3) := by decide +kernel
theorem dL_law_1465 : decode cL_law 1465 = .ok (.istore 5, 2) := by decide +kernel
theorem dL_law_1467 : decode cL_law 1467 = .ok (.aload_n 2, 1) := by decide +kernel
theorem dL_law_1468 : decode cL_law 1468 = .ok (.aload_n 0, 1) := by decide +kernel
theorem dL_law_1469 : decode cL_law 1469 = .ok (.iload 4, 2) := by decide +kernel
theorem dL_law_1471 : decode cL_law 1471 = .ok (.iconst 1, 1) := by decide +kernel
theorem dL_law_1472 : decode cL_law 1472 = .ok (.iadd, 1) := by decide +kernel
theorem dL_law_1473 : decode cL_law 1473 = .ok (.iaload, 1) := by decide +kernel
theorem dL_law_1474 : decode cL_law 1474 = .ok (.aload_n 0, 1) := by decide +kernel
theorem dL_law_1475 : decode cL_law 1475 = .ok (.iload 4, 2) := by decide +kernel
theorem dL_law_1477 : decode cL_law 1477 = .ok (.iconst 2, 1) := by decide +kernel
theorem dL_law_1478 : decode cL_law 1478 = .ok (.iadd, 1) := by decide +kernel
theorem dL_law_1479 : decode cL_law 1479 = .ok (.iaload, 1) := by decide +kernel
theorem dL_law_1480 : decode cL_law 1480 = .ok (.i2l, 1) := by decide +kernel
theorem dL_law_1481 : decode cL_law 1481 = .ok (.bipush 32, 2) := by decide +kernel
theorem dL_law_1483 : decode cL_law 1483 = .ok (.lshl, 1) := by decide +kernel
theorem dL_law_1484 : decode cL_law 1484 = .ok (.aload_n 0, 1) := by decide +kernel
theorem dL_law_1485 : decode cL_law 1485 = .ok (.iload 4, 2) := by decide +kernel
theorem dL_law_1487 : decode cL_law 1487 = .ok (.iconst 3, 1) := by decide +kernel
theorem dL_law_1488 : decode cL_law 1488 = .ok (.iadd, 1) := by decide +kernel
theorem dL_law_1489 : decode cL_law 1489 = .ok (.iaload, 1) := by decide +kernel
theorem dL_law_1490 : decode cL_law 1490 = .ok (.i2l, 1) := by decide +kernel
theorem dL_law_1491 : decode cL_law 1491 = .ok (.ldc2_w 172, 3) := by decide +kernel
theorem dL_law_1494 : decode cL_law 1494 = .ok (.land, 1) := by decide +kernel
theorem dL_law_1495 : decode cL_law 1495 = .ok (.lor, 1) := by decide +kernel
theorem dL_law_1496 : decode cL_law 1496 = .ok (.invokevirtual 177, 3) := by decide +kernel
theorem dL_law_1499 : decode cL_law 1499 = .ok (.istore 6, 2) := by decide +kernel
theorem dL_law_1501 : decode cL_law 1501 = .ok (.aload_n 2, 1) := by decide +kernel
theorem dL_law_1502 : decode cL_law 1502 = .ok (.invokevirtual 98, 3) := by decide +kernel
theorem dL_law_1505 : decode cL_law 1505 = .ok (.iload 5, 2) := by decide +kernel
theorem dL_law_1507 : decode cL_law 1507 = .ok (.if_icmp .eq 5, 3) := by decide +kernel
theorem dL_law_1510 : decode cL_law 1510 = .ok (.iconst 0, 1) := by decide +kernel
theorem dL_law_1511 : decode cL_law 1511 = .ok (.ireturn, 1) := by decide +kernel
theorem dL_law_1512 : decode cL_law 1512 = .ok (.iload 5, 2) := by decide +kernel
theorem dL_law_1514 : decode cL_law 1514 = .ok (.ifCond .ne 15, 3) := by decide +kernel
theorem dL_law_1517 : decode cL_law 1517 = .ok (.aload_n 3, 1) := by decide +kernel
theorem dL_law_1518 : decode cL_law 1518 = .ok (.iconst 0, 1) := by decide +kernel
theorem dL_law_1519 : decode cL_law 1519 = .ok (.laload, 1) := by decide +kernel
theorem dL_law_1520 : decode cL_law 1520 = .ok (.iload 6, 2) := by decide +kernel
theorem dL_law_1522 : decode cL_law 1522 = .ok (.i2l, 1) := by decide +kernel
theorem dL_law_1523 : decode cL_law 1523 = .ok (.lcmp, 1) := by decide +kernel
theorem dL_law_1524 : decode cL_law 1524 = .ok (.ifCond .eq 5, 3) := by decide +kernel
theorem dL_law_1527 : decode cL_law 1527 = .ok (.iconst 0, 1) := by decide +kernel
theorem dL_law_1528 : decode cL_law 1528 = .ok (.ireturn, 1) := by decide +kernel
theorem dL_law_1529 : decode cL_law 1529 = .ok (.goto 215, 3) := by decide +kernel
theorem dL_law_1532 : decode cL_law 1532 = .ok (.aload_n 1, 1) := by decide +kernel
theorem dL_law_1533 : decode cL_law 1533 = .ok (.aload_n 0, 1) := by decide +kernel
theorem dL_law_1534 : decode cL_law 1534 = .ok (.iload 4, 2) := by decide +kernel
theorem dL_law_1536 : decode cL_law 1536 = .ok (.iconst 1, 1) := by decide +kernel
theorem dL_law_1537 : decode cL_law 1537 = .ok (.iadd, 1) := by decide +kernel
theorem dL_law_1538 : decode cL_law 1538 = .ok (.iaload, 1) := by decide +kernel
theorem dL_law_1539 : decode cL_law 1539 = .ok (.i2l, 1) := by decide +kernel
theorem dL_law_1540 : decode cL_law 1540 = .ok (.bipush 32, 2) := by decide +kernel
theorem dL_law_1542 : decode cL_law 1542 = .ok (.lshl, 1) := by decide +kernel
theorem dL_law_1543 : decode cL_law 1543 = .ok (.aload_n 0, 1) := by decide +kernel
theorem dL_law_1544 : decode cL_law 1544 = .ok (.iload 4, 2) := by decide +kernel
theorem dL_law_1546 : decode cL_law 1546 = .ok (.iconst 2, 1) := by decide +kernel
theorem dL_law_1547 : decode cL_law 1547 = .ok (.iadd, 1) := by decide +kernel
theorem dL_law_1548 : decode cL_law 1548 = .ok (.iaload, 1) := by decide +kernel
theorem dL_law_1549 : decode cL_law 1549 = .ok (.i2l, 1) := by decide +kernel
theorem dL_law_1550 : decode cL_law 1550 = .ok (.ldc2_w 172, 3) := by decide +kernel
theorem dL_law_1553 : decode cL_law 1553 = .ok (.land, 1) := by decide +kernel
theorem dL_law_1554 : decode cL_law 1554 = .ok (.lor, 1) := by decide +kernel
theorem dL_law_1555 : decode cL_law 1555 = .ok (.aload_n 0, 1) := by decide +kernel
theorem dL_law_1556 : decode cL_law 1556 = .ok (.iload 4, 2) := by decide +kernel
theorem dL_law_1558 : decode cL_law 1558 = .ok (.iconst 3, 1) := by decide +kernel
theorem dL_law_1559 : decode cL_law 1559 = .ok (.iadd, 1) := by decide +kernel
theorem dL_law_1560 : decode cL_law 1560 = .ok (.iaload, 1) := by decide +kernel
theorem dL_law_1561 : decode cL_law 1561 = .ok (.aload_n 3, 1) := by decide +kernel
theorem dL_law_1562 : decode cL_law 1562 = .ok (.invokestatic 178, 3) := by decide +kernel
theorem dL_law_1565 : decode cL_law 1565 = .ok (.istore 5, 2) := by decide +kernel
theorem dL_law_1567 : decode cL_law 1567 = .ok (.aload_n 2, 1) := by decide +kernel
theorem dL_law_1568 : decode cL_law 1568 = .ok (.aload_n 0, 1) := by decide +kernel
theorem dL_law_1569 : decode cL_law 1569 = .ok (.iload 4, 2) := by decide +kernel
theorem dL_law_1571 : decode cL_law 1571 = .ok (.iconst 1, 1) := by decide +kernel
theorem dL_law_1572 : decode cL_law 1572 = .ok (.iadd, 1) := by decide +kernel
theorem dL_law_1573 : decode cL_law 1573 = .ok (.iaload, 1) := by decide +kernel
theorem dL_law_1574 : decode cL_law 1574 = .ok (.i2l, 1) := by decide +kernel
theorem dL_law_1575 : decode cL_law 1575 = .ok (.bipush 32, 2) := by decide +kernel
theorem dL_law_1577 : decode cL_law 1577 = .ok (.lshl, 1) := by decide +kernel
theorem dL_law_1578 : decode cL_law 1578 = .ok (.aload_n 0, 1) := by decide +kernel
theorem dL_law_1579 : decode cL_law 1579 = .ok (.iload 4, 2) := by decide +kernel
theorem dL_law_1581 : decode cL_law 1581 = .ok (.iconst 2, 1) := by decide +kernel
theorem dL_law_1582 : decode cL_law 1582 = .ok (.iadd, 1) := by decide +kernel
theorem dL_law_1583 : decode cL_law 1583 = .ok (.iaload, 1) := by decide +kernel
theorem dL_law_1584 : decode cL_law 1584 = .ok (.i2l, 1) := by decide +kernel
theorem dL_law_1585 : decode cL_law 1585 = .ok (.ldc2_w 172, 3) := by decide +kernel
theorem dL_law_1588 : decode cL_law 1588 = .ok (.land, 1) := by decide +kernel
theorem dL_law_1589 : decode cL_law 1589 = .ok (.lor, 1) := by decide +kernel
theorem dL_law_1590 : decode cL_law 1590 = .ok (.aload_n 0, 1) := by decide +kernel
theorem dL_law_1591 : decode cL_law 1591 = .ok (.iload 4, 2) := by decide +kernel
theorem dL_law_1593 : decode cL_law 1593 = .ok (.iconst 3, 1) := by decide +kernel
theorem dL_law_1594 : decode cL_law 1594 = .ok (.iadd, 1) := by decide +kernel
theorem dL_law_1595 : decode cL_law 1595 = .ok (.iaload, 1) := by decide +kernel
theorem dL_law_1596 : decode cL_law 1596 = .ok (.invokevirtual 181, 3) := by decide +kernel
theorem dL_law_1599 : decode cL_law 1599 = .ok (.istore 6, 2) := by decide +kernel
theorem dL_law_1601 : decode cL_law 1601 = .ok (.aload_n 2, 1) := by decide +kernel
theorem dL_law_1602 : decode cL_law 1602 = .ok (.invokevirtual 98, 3) := by decide +kernel
theorem dL_law_1605 : decode cL_law 1605 = .ok (.iload 5, 2) := by decide +kernel
theorem dL_law_1607 : decode cL_law 1607 = .ok (.if_icmp .eq 5, 3) := by decide +kernel
theorem dL_law_1610 : decode cL_law 1610 = .ok (.iconst 0, 1) := by decide +kernel
theorem dL_law_1611 : decode cL_law 1611 = .ok (.ireturn, 1) := by decide +kernel
theorem dL_law_1612 : decode cL_law 1612 = .ok (.iload 5, 2) := by decide +kernel
theorem dL_law_1614 : decode cL_law 1614 = .ok (.ifCond .ne 15, 3) := by decide +kernel
theorem dL_law_1617 : decode cL_law 1617 = .ok (.aload_n 3, 1) := by decide +kernel
theorem dL_law_1618 : decode cL_law 1618 = .ok (.iconst 0, 1) := by decide +kernel
theorem dL_law_1619 : decode cL_law 1619 = .ok (.laload, 1) := by decide +kernel
theorem dL_law_1620 : decode cL_law 1620 = .ok (.iload 6, 2) := by decide +kernel
theorem dL_law_1622 : decode cL_law 1622 = .ok (.i2l, 1) := by decide +kernel
theorem dL_law_1623 : decode cL_law 1623 = .ok (.lcmp, 1) := by decide +kernel
theorem dL_law_1624 : decode cL_law 1624 = .ok (.ifCond .eq 5, 3) := by decide +kernel
theorem dL_law_1627 : decode cL_law 1627 = .ok (.iconst 0, 1) := by decide +kernel
theorem dL_law_1628 : decode cL_law 1628 = .ok (.ireturn, 1) := by decide +kernel
theorem dL_law_1629 : decode cL_law 1629 = .ok (.goto 115, 3) := by decide +kernel
theorem dL_law_1632 : decode cL_law 1632 = .ok (.aload_n 1, 1) := by decide +kernel
theorem dL_law_1633 : decode cL_law 1633 = .ok (.aload_n 0, 1) := by decide +kernel
theorem dL_law_1634 : decode cL_law 1634 = .ok (.iload 4, 2) := by decide +kernel
theorem dL_law_1636 : decode cL_law 1636 = .ok (.iconst 1, 1) := by decide +kernel
theorem dL_law_1637 : decode cL_law 1637 = .ok (.iadd, 1) := by decide +kernel
theorem dL_law_1638 : decode cL_law 1638 = .ok (.iaload, 1) := by decide +kernel
theorem dL_law_1639 : decode cL_law 1639 = .ok (.aload_n 3, 1) := by decide +kernel
theorem dL_law_1640 : decode cL_law 1640 = .ok (.invokestatic 182, 3) := by decide +kernel
theorem dL_law_1643 : decode cL_law 1643 = .ok (.istore 5, 2) := by decide +kernel
theorem dL_law_1645 : decode cL_law 1645 = .ok (.aload_n 2, 1) := by decide +kernel
theorem dL_law_1646 : decode cL_law 1646 = .ok (.aload_n 0, 1) := by decide +kernel
theorem dL_law_1647 : decode cL_law 1647 = .ok (.iload 4, 2) := by decide +kernel
theorem dL_law_1649 : decode cL_law 1649 = .ok (.iconst 1, 1) := by decide +kernel
theorem dL_law_1650 : decode cL_law 1650 = .ok (.iadd, 1) := by decide +kernel
theorem dL_law_1651 : decode cL_law 1651 = .ok (.iaload, 1) := by decide +kernel
theorem dL_law_1652 : decode cL_law 1652 = .ok (.invokevirtual 184, 3) := by decide +kernel
theorem dL_law_1655 : decode cL_law 1655 = .ok (.istore 6, 2) := by decide +kernel
theorem dL_law_1657 : decode cL_law 1657 = .ok (.aload_n 2, 1) := by decide +kernel
theorem dL_law_1658 : decode cL_law 1658 = .ok (.invokevirtual 98, 3) := by decide +kernel
theorem dL_law_1661 : decode cL_law 1661 = .ok (.iload 5, 2) := by decide +kernel
theorem dL_law_1663 : decode cL_law 1663 = .ok (.if_icmp .eq 5, 3) := by decide +kernel
theorem dL_law_1666 : decode cL_law 1666 = .ok (.iconst 0, 1) := by decide +kernel
theorem dL_law_1667 : decode cL_law 1667 = .ok (.ireturn, 1) := by decide +kernel
theorem dL_law_1668 : decode cL_law 1668 = .ok (.iload 5, 2) := by decide +kernel
theorem dL_law_1670 : decode cL_law 1670 = .ok (.ifCond .ne 15, 3) := by decide +kernel
theorem dL_law_1673 : decode cL_law 1673 = .ok (.aload_n 3, 1) := by decide +kernel
theorem dL_law_1674 : decode cL_law 1674 = .ok (.iconst 0, 1) := by decide +kernel
theorem dL_law_1675 : decode cL_law 1675 = .ok (.laload, 1) := by decide +kernel
theorem dL_law_1676 : decode cL_law 1676 = .ok (.iload 6, 2) := by decide +kernel
theorem dL_law_1678 : decode cL_law 1678 = .ok (.i2l, 1) := by decide +kernel
theorem dL_law_1679 : decode cL_law 1679 = .ok (.lcmp, 1) := by decide +kernel
theorem dL_law_1680 : decode cL_law 1680 = .ok (.ifCond .eq 5, 3) := by decide +kernel
theorem dL_law_1683 : decode cL_law 1683 = .ok (.iconst 0, 1) := by decide +kernel
theorem dL_law_1684 : decode cL_law 1684 = .ok (.ireturn, 1) := by decide +kernel
theorem dL_law_1685 : decode cL_law 1685 = .ok (.goto 59, 3) := by decide +kernel
theorem dL_law_1688 : decode cL_law 1688 = .ok (.aload_n 1, 1) := by decide +kernel
theorem dL_law_1689 : decode cL_law 1689 = .ok (.aload_n 0, 1) := by decide +kernel
theorem dL_law_1690 : decode cL_law 1690 = .ok (.iload 4, 2) := by decide +kernel
theorem dL_law_1692 : decode cL_law 1692 = .ok (.iconst 1, 1) := by decide +kernel
theorem dL_law_1693 : decode cL_law 1693 = .ok (.iadd, 1) := by decide +kernel
theorem dL_law_1694 : decode cL_law 1694 = .ok (.iaload, 1) := by decide +kernel
theorem dL_law_1695 : decode cL_law 1695 = .ok (.aload_n 3, 1) := by decide +kernel
theorem dL_law_1696 : decode cL_law 1696 = .ok (.invokestatic 185, 3) := by decide +kernel
theorem dL_law_1699 : decode cL_law 1699 = .ok (.istore 5, 2) := by decide +kernel
theorem dL_law_1701 : decode cL_law 1701 = .ok (.aload_n 2, 1) := by decide +kernel
theorem dL_law_1702 : decode cL_law 1702 = .ok (.aload_n 0, 1) := by decide +kernel
theorem dL_law_1703 : decode cL_law 1703 = .ok (.iload 4, 2) := by decide +kernel
theorem dL_law_1705 : decode cL_law 1705 = .ok (.iconst 1, 1) := by decide +kernel
theorem dL_law_1706 : decode cL_law 1706 = .ok (.iadd, 1) := by decide +kernel
theorem dL_law_1707 : decode cL_law 1707 = .ok (.iaload, 1) := by decide +kernel
theorem dL_law_1708 : decode cL_law 1708 = .ok (.invokevirtual 187, 3) := by decide +kernel
theorem dL_law_1711 : decode cL_law 1711 = .ok (.istore 6, 2) := by decide +kernel
theorem dL_law_1713 : decode cL_law 1713 = .ok (.aload_n 2, 1) := by decide +kernel
theorem dL_law_1714 : decode cL_law 1714 = .ok (.invokevirtual 98, 3) := by decide +kernel
theorem dL_law_1717 : decode cL_law 1717 = .ok (.iload 5, 2) := by decide +kernel
theorem dL_law_1719 : decode cL_law 1719 = .ok (.if_icmp .eq 5, 3) := by decide +kernel
theorem dL_law_1722 : decode cL_law 1722 = .ok (.iconst 0, 1) := by decide +kernel
theorem dL_law_1723 : decode cL_law 1723 = .ok (.ireturn, 1) := by decide +kernel
theorem dL_law_1724 : decode cL_law 1724 = .ok (.iload 5, 2) := by decide +kernel
theorem dL_law_1726 : decode cL_law 1726 = .ok (.ifCond .ne 15, 3) := by decide +kernel
theorem dL_law_1729 : decode cL_law 1729 = .ok (.aload_n 3, 1) := by decide +kernel
theorem dL_law_1730 : decode cL_law 1730 = .ok (.iconst 0, 1) := by decide +kernel
theorem dL_law_1731 : decode cL_law 1731 = .ok (.laload, 1) := by decide +kernel
theorem dL_law_1732 : decode cL_law 1732 = .ok (.iload 6, 2) := by decide +kernel
theorem dL_law_1734 : decode cL_law 1734 = .ok (.i2l, 1) := by decide +kernel
theorem dL_law_1735 : decode cL_law 1735 = .ok (.lcmp, 1) := by decide +kernel
theorem dL_law_1736 : decode cL_law 1736 = .ok (.ifCond .eq 5, 3) := by decide +kernel
theorem dL_law_1739 : decode cL_law 1739 = .ok (.iconst 0, 1) := by decide +kernel
theorem dL_law_1740 : decode cL_law 1740 = .ok (.ireturn, 1) := by decide +kernel
theorem dL_law_1741 : decode cL_law 1741 = .ok (.goto 3, 3) := by decide +kernel
theorem dL_law_1744 : decode cL_law 1744 = .ok (.iinc 4 5, 3) := by decide +kernel
theorem dL_law_1747 : decode cL_law 1747 = .ok (.goto (-1724), 3) := by decide +kernel
theorem dL_law_1750 : decode cL_law 1750 = .ok (.iconst 1, 1) := by decide +kernel
theorem dL_law_1751 : decode cL_law 1751 = .ok (.ireturn, 1) := by decide +kernel
