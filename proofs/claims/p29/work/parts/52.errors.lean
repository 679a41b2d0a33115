set_option maxHeartbeats 4000000 in
set_option maxRecDepth 20000 in
theorem c_L_errors {h : eH} {n b ℓ c T : Nat} {σ : St} {x : Nat → Nat} {τ τs : Nat → St} {us : Nat → Nat} (hO : eNB h b σ x ℓ c τ us τs) (hI : gI σ T) (hT : T < 2 ^ 20) : kL_errors [.ref b] h n (.inl (some (.int (nI 1))), (· = h), none) 60 360 := by
  refine eM.of RL "errors" [(0, .ref b)] pn_L rfl rfl (Nat.le_of_ble_eq_true rfl) rfl ?_
  have hK := hI.ok hT
  have hB := hK.1
  have hP := hK.2.1
  have hN := hK.2.2.1
  have g234 : ∀ n, kX10_give [.ref b, .int (nI 0), .int (nI (σ 0 0)), .int (nI 1), .int (nI 0)] h n (.inr "java/lang/IndexOutOfBoundsException", (· = h), none) 1 6 := fun n => by
    by_cases z : 0 < σ 0 0
    · exact c_X10_give_2 (g := 0) hO hB z (nI_no (by omega) (Nat.lt_irrefl _))
    · exact c_X10_give_1 hO hB (nI_no (k := 0) (by decide) z)
  refine ev_aload_n dL_errors_0 rfl rfl ?_
  refine ev_roN dL_errors_1 (c_L_now hO hI hT) lk_L_110 ⟨Nat.le_of_ble_eq_true rfl, Nat.le_of_ble_eq_true rfl⟩ rfl (Nat.le_of_ble_eq_true rfl) ⟨by first | exact Nat.le_of_ble_eq_true rfl | omega, by first | exact Nat.le_of_ble_eq_true rfl | omega⟩ (fun n_1 => ?_)
  refine ev_lstore_n dL_errors_4 rfl (Nat.le_of_ble_eq_true rfl) ?_
  refine ev_aload_n dL_errors_5 rfl rfl ?_
  refine ev_iconst (v := nI 0) dL_errors_6 rfl ?_
  refine ev_roW dL_errors_7 (a_about (w := 0) (v := σ 0 0) hO hI hT (by decide) rfl) lk_L_100 ⟨Nat.le_of_ble_eq_true rfl, Nat.le_of_ble_eq_true rfl⟩ rfl (Nat.le_of_ble_eq_true rfl) ⟨by first | exact Nat.le_of_ble_eq_true rfl | omega, by first | exact Nat.le_of_ble_eq_true rfl | omega⟩ (fun n_7 => ?_)
  refine ev_l2i dL_errors_10 (lN_i _) ?_
  refine ev_istore_n dL_errors_11 rfl (Nat.le_of_ble_eq_true rfl) ?_
  refine ev_aload_n dL_errors_12 rfl rfl ?_
  refine ev_iconst (v := nI 1) dL_errors_13 rfl ?_
  refine ev_roW dL_errors_14 (a_about (w := 1) (v := σ 0 1) hO hI hT (by decide) rfl) lk_L_100 ⟨Nat.le_of_ble_eq_true rfl, Nat.le_of_ble_eq_true rfl⟩ rfl (Nat.le_of_ble_eq_true rfl) ⟨by first | exact Nat.le_of_ble_eq_true rfl | omega, by first | exact Nat.le_of_ble_eq_true rfl | omega⟩ (fun n_14 => ?_)
  refine ev_l2i dL_errors_17 (lN_i _) ?_
  refine ev_istore dL_errors_18 (Nat.le_of_ble_eq_true rfl) ?_
  refine ev_aload_n dL_errors_20 rfl rfl ?_
  refine ev_iconst (v := -1) dL_errors_21 (by decide) ?_
  refine ev_rxW dL_errors_22 (w_about_1 hO.1 (c_X10_about_n (by decide))) lk_L_100 ⟨Nat.le_of_ble_eq_true rfl, Nat.le_of_ble_eq_true rfl⟩ rfl (Nat.le_of_ble_eq_true rfl) ⟨by first | exact Nat.le_of_ble_eq_true rfl | omega, by first | exact Nat.le_of_ble_eq_true rfl | omega⟩ (fun n_22 => ?_)
  refine ev_ldc2 dL_errors_25 wq_L_17 ?_
  refine ev_lcS_ne (tgt := 343) dL_errors_28 dL_errors_29 (by decide) (by rfl) ?_
  refine ev_aload_n dL_errors_32 rfl rfl ?_
  refine ev_bipush (v := nI 15) dL_errors_33 rfl ?_
  refine ev_rxW dL_errors_35 (w_about_1 hO.1 (c_X10_about_n (by decide))) lk_L_100 ⟨Nat.le_of_ble_eq_true rfl, Nat.le_of_ble_eq_true rfl⟩ rfl (Nat.le_of_ble_eq_true rfl) ⟨by first | exact Nat.le_of_ble_eq_true rfl | omega, by first | exact Nat.le_of_ble_eq_true rfl | omega⟩ (fun n_35 => ?_)
  refine ev_ldc2 dL_errors_38 wq_L_17 ?_
  refine ev_lcS_ne (tgt := 343) dL_errors_41 dL_errors_42 (by decide) (by rfl) ?_
  refine ev_aload_n dL_errors_45 rfl rfl ?_
  refine ev_iload_n dL_errors_46 rfl rfl ?_
  refine ev_bipush (v := nI 9) dL_errors_47 rfl ?_
  refine ev_rxW dL_errors_49 (w_personOf_1 hO.1 (c_X10_personOf_1 hO hB (nI_no (by omega) (Nat.lt_irrefl _)))) lk_L_105 ⟨Nat.le_of_ble_eq_true rfl, Nat.le_of_ble_eq_true rfl⟩ rfl (Nat.le_of_ble_eq_true rfl) ⟨by first | exact Nat.le_of_ble_eq_true rfl | omega, by first | exact Nat.le_of_ble_eq_true rfl | omega⟩ (fun n_49 => ?_)
  refine ev_ldc2 dL_errors_52 wq_L_36 ?_
  refine ev_lcS_ne (tgt := 343) dL_errors_55 dL_errors_56 (by decide) (by rfl) ?_
  refine ev_aload_n dL_errors_59 rfl rfl ?_
  refine ev_iconst (v := -1) dL_errors_60 (by decide) ?_
  refine ev_iconst (v := nI 0) dL_errors_61 rfl ?_
  refine ev_rxW dL_errors_62 (w_personOf_1 hO.1 (c_X10_personOf_1 hO hB (fun z => absurd z.1 (by decide)))) lk_L_105 ⟨Nat.le_of_ble_eq_true rfl, Nat.le_of_ble_eq_true rfl⟩ rfl (Nat.le_of_ble_eq_true rfl) ⟨by first | exact Nat.le_of_ble_eq_true rfl | omega, by first | exact Nat.le_of_ble_eq_true rfl | omega⟩ (fun n_62 => ?_)
  refine ev_ldc2 dL_errors_65 wq_L_36 ?_
  refine ev_lcS_ne (tgt := 343) dL_errors_68 dL_errors_69 (by decide) (by rfl) ?_
  refine ev_aload_n dL_errors_72 rfl rfl ?_
  refine ev_iload dL_errors_73 rfl ?_
  refine ev_bipush (v := nI 8) dL_errors_75 rfl ?_
  refine ev_rxW dL_errors_77 (w_nameOf_1 hO.1 (c_X10_nameOf_1 hO hB (nI_no (by omega) (Nat.lt_irrefl _)))) lk_L_108 ⟨Nat.le_of_ble_eq_true rfl, Nat.le_of_ble_eq_true rfl⟩ rfl (Nat.le_of_ble_eq_true rfl) ⟨by first | exact Nat.le_of_ble_eq_true rfl | omega, by first | exact Nat.le_of_ble_eq_true rfl | omega⟩ (fun n_77 => ?_)
  refine ev_ldc2 dL_errors_80 wq_L_36 ?_
  refine ev_lcS_ne (tgt := 343) dL_errors_83 dL_errors_84 (by decide) (by rfl) ?_
  refine ev_aload_n dL_errors_87 rfl rfl ?_
  refine ev_iload dL_errors_88 rfl ?_
  refine ev_iconst (v := nI 0) dL_errors_90 rfl ?_
  refine ev_rxW dL_errors_91 (w_letter_1 hO.1 (c_X10_letter_1 hO hB (nI_no (by omega) (Nat.lt_irrefl _)))) lk_L_114 ⟨Nat.le_of_ble_eq_true rfl, Nat.le_of_ble_eq_true rfl⟩ rfl (Nat.le_of_ble_eq_true rfl) ⟨by first | exact Nat.le_of_ble_eq_true rfl | omega, by first | exact Nat.le_of_ble_eq_true rfl | omega⟩ (fun n_91 => ?_)
  refine ev_ldc2 dL_errors_94 wq_L_36 ?_
  refine ev_lcS_ne (tgt := 343) dL_errors_97 dL_errors_98 (by decide) (by rfl) ?_
  refine ev_aload_n dL_errors_101 rfl rfl ?_
  refine ev_iconst (v := -1) dL_errors_102 (by decide) ?_
  refine ev_rxW dL_errors_103 (w_roll_1 hO.1 (c_X10_roll_1 (by decide))) lk_L_116 ⟨Nat.le_of_ble_eq_true rfl, Nat.le_of_ble_eq_true rfl⟩ rfl (Nat.le_of_ble_eq_true rfl) ⟨by first | exact Nat.le_of_ble_eq_true rfl | omega, by first | exact Nat.le_of_ble_eq_true rfl | omega⟩ (fun n_103 => ?_)
  refine ev_ldc2 dL_errors_106 wq_L_17 ?_
  refine ev_lcS_ne (tgt := 343) dL_errors_109 dL_errors_110 (by decide) (by rfl) ?_
  refine ev_aload_n dL_errors_113 rfl rfl ?_
  refine ev_iconst (v := nI 4) dL_errors_114 rfl ?_
  refine ev_iconst (v := nI 5) dL_errors_115 rfl ?_
  refine ev_iconst (v := nI 0) dL_errors_116 rfl ?_
  refine ev_iconst (v := nI 2) dL_errors_117 rfl ?_
  refine ev_rxW dL_errors_118 (w_meant_1 hO.1 (c_X10_meant_1 (by decide))) lk_L_118 ⟨Nat.le_of_ble_eq_true rfl, Nat.le_of_ble_eq_true rfl⟩ rfl (Nat.le_of_ble_eq_true rfl) ⟨by first | exact Nat.le_of_ble_eq_true rfl | omega, by first | exact Nat.le_of_ble_eq_true rfl | omega⟩ (fun n_118 => ?_)
  refine ev_ldc2 dL_errors_121 wq_L_36 ?_
  refine ev_lcS_ne (tgt := 343) dL_errors_124 dL_errors_125 (by decide) (by rfl) ?_
  refine ev_aload_n dL_errors_128 rfl rfl ?_
  refine ev_iconst (v := nI 0) dL_errors_129 rfl ?_
  refine ev_iconst (v := nI 5) dL_errors_130 rfl ?_
  refine ev_iconst (v := nI 0) dL_errors_131 rfl ?_
  refine ev_iconst (v := nI 0) dL_errors_132 rfl ?_
  refine ev_rxW dL_errors_133 (w_meant_2 hO.1 (c_X10_meant_2 (d := 0) (by decide) (by decide))) lk_L_118 ⟨Nat.le_of_ble_eq_true rfl, Nat.le_of_ble_eq_true rfl⟩ rfl (Nat.le_of_ble_eq_true rfl) ⟨by first | exact Nat.le_of_ble_eq_true rfl | omega, by first | exact Nat.le_of_ble_eq_true rfl | omega⟩ (fun n_133 => ?_)
  refine ev_ldc2 dL_errors_136 wq_L_17 ?_
  refine ev_lcS_ne (tgt := 343) dL_errors_139 dL_errors_140 (by decide) (by rfl) ?_
  refine ev_aload_n dL_errors_143 rfl rfl ?_
  refine ev_iconst (v := nI 0) dL_errors_144 rfl ?_
  refine ev_iconst (v := nI 1) dL_errors_145 rfl ?_
  refine ev_iconst (v := -1) dL_errors_146 (by decide) ?_
  refine ev_iconst (v := nI 0) dL_errors_147 rfl ?_
  refine ev_rxW dL_errors_148 (w_meant_2 hO.1 (c_X10_meant_2 (d := 0) (by decide) (by decide))) lk_L_118 ⟨Nat.le_of_ble_eq_true rfl, Nat.le_of_ble_eq_true rfl⟩ rfl (Nat.le_of_ble_eq_true rfl) ⟨by first | exact Nat.le_of_ble_eq_true rfl | omega, by first | exact Nat.le_of_ble_eq_true rfl | omega⟩ (fun n_148 => ?_)
  refine ev_ldc2 dL_errors_151 wq_L_17 ?_
  refine ev_lcS_ne (tgt := 343) dL_errors_154 dL_errors_155 (by decide) (by rfl) ?_
  refine ev_aload_n dL_errors_158 rfl rfl ?_
  refine ev_iconst (v := nI 0) dL_errors_159 rfl ?_
  refine ev_bipush (v := nI 6) dL_errors_160 rfl ?_
  refine ev_iconst (v := nI 0) dL_errors_162 rfl ?_
  refine ev_rxW dL_errors_163 (w_person_1 hO.1 (c_X10_person_1 (by decide))) lk_L_121 ⟨Nat.le_of_ble_eq_true rfl, Nat.le_of_ble_eq_true rfl⟩ rfl (Nat.le_of_ble_eq_true rfl) ⟨by first | exact Nat.le_of_ble_eq_true rfl | omega, by first | exact Nat.le_of_ble_eq_true rfl | omega⟩ (fun n_163 => ?_)
  refine ev_ldc2 dL_errors_166 wq_L_36 ?_
  refine ev_lcS_ne (tgt := 343) dL_errors_169 dL_errors_170 (by decide) (by rfl) ?_
  refine ev_aload_n dL_errors_173 rfl rfl ?_
  refine ev_iconst (v := nI 0) dL_errors_174 rfl ?_
  refine ev_iconst (v := nI 0) dL_errors_175 rfl ?_
  refine ev_iconst (v := -1) dL_errors_176 (by decide) ?_
  refine ev_rxW dL_errors_177 (w_person_1 hO.1 (c_X10_person_2 (f := 0) (by decide) (by decide))) lk_L_121 ⟨Nat.le_of_ble_eq_true rfl, Nat.le_of_ble_eq_true rfl⟩ rfl (Nat.le_of_ble_eq_true rfl) ⟨by first | exact Nat.le_of_ble_eq_true rfl | omega, by first | exact Nat.le_of_ble_eq_true rfl | omega⟩ (fun n_177 => ?_)
  refine ev_ldc2 dL_errors_180 wq_L_36 ?_
  refine ev_lcS_ne (tgt := 343) dL_errors_183 dL_errors_184 (by decide) (by rfl) ?_
  refine ev_aload_n dL_errors_187 rfl rfl ?_
  refine ev_iconst (v := -1) dL_errors_188 (by decide) ?_
  refine ev_iconst (v := nI 0) dL_errors_189 rfl ?_
  refine ev_iconst (v := nI 0) dL_errors_190 rfl ?_
  refine ev_rxW dL_errors_191 (w_person_2 hO.1 (c_X10_person_3 (f := 0) (d := 0) (by decide) (by decide) (by decide))) lk_L_121 ⟨Nat.le_of_ble_eq_true rfl, Nat.le_of_ble_eq_true rfl⟩ rfl (Nat.le_of_ble_eq_true rfl) ⟨by first | exact Nat.le_of_ble_eq_true rfl | omega, by first | exact Nat.le_of_ble_eq_true rfl | omega⟩ (fun n_191 => ?_)
  refine ev_ldc2 dL_errors_194 wq_L_17 ?_
  refine ev_lcS_ne (tgt := 343) dL_errors_197 dL_errors_198 (by decide) (by rfl) ?_
  refine ev_aload_n dL_errors_201 rfl rfl ?_
  refine ev_iload_n dL_errors_202 rfl rfl ?_
  refine ev_iconst (v := nI 0) dL_errors_203 rfl ?_
  refine ev_rxW dL_errors_204 (w_sit_1 hO.1 (c_X10_sit_1 hO hB (nI_no (by omega) (Nat.lt_irrefl _)))) lk_L_124 ⟨Nat.le_of_ble_eq_true rfl, Nat.le_of_ble_eq_true rfl⟩ rfl (Nat.le_of_ble_eq_true rfl) ⟨by first | exact Nat.le_of_ble_eq_true rfl | omega, by first | exact Nat.le_of_ble_eq_true rfl | omega⟩ (fun n_204 => ?_)
  refine ev_ldc2 dL_errors_207 wq_L_36 ?_
  refine ev_lcS_ne (tgt := 343) dL_errors_210 dL_errors_211 (by decide) (by rfl) ?_
  refine ev_aload_n dL_errors_214 rfl rfl ?_
  refine ev_iload_n dL_errors_215 rfl rfl ?_
  refine ev_iconst (v := nI 0) dL_errors_216 rfl ?_
  refine ev_iconst (v := nI 5) dL_errors_217 rfl ?_
  refine ev_iconst (v := nI 0) dL_errors_218 rfl ?_
  refine ev_rxW dL_errors_219 (w_give_1 hO.1 (c_X10_give_1 hO hB (nI_no (by omega) (Nat.lt_irrefl _)))) lk_L_126 ⟨Nat.le_of_ble_eq_true rfl, Nat.le_of_ble_eq_true rfl⟩ rfl (Nat.le_of_ble_eq_true rfl) ⟨by first | exact Nat.le_of_ble_eq_true rfl | omega, by first | exact Nat.le_of_ble_eq_true rfl | omega⟩ (fun n_219 => ?_)
  refine ev_ldc2 dL_errors_222 wq_L_36 ?_
  refine ev_lcS_ne (tgt := 343) dL_errors_225 dL_errors_226 (by decide) (by rfl) ?_
  refine ev_aload_n dL_errors_229 rfl rfl ?_
  refine ev_iconst (v := nI 0) dL_errors_230 rfl ?_
  refine ev_iload_n dL_errors_231 rfl rfl ?_
  refine ev_iconst (v := nI 1) dL_errors_232 rfl ?_
  refine ev_iconst (v := nI 0) dL_errors_233 rfl ?_
  refine ev_rxW dL_errors_234 (w_give_1 hO.1 (g234 _)) lk_L_126 ⟨Nat.le_of_ble_eq_true rfl, Nat.le_of_ble_eq_true rfl⟩ rfl (Nat.le_of_ble_eq_true rfl) ⟨by first | exact Nat.le_of_ble_eq_true rfl | omega, by first | exact Nat.le_of_ble_eq_true rfl | omega⟩ (fun n_234 => ?_)
  refine ev_ldc2 dL_errors_237 wq_L_36 ?_
  refine ev_lcS_ne (tgt := 343) dL_errors_240 dL_errors_241 (by decide) (by rfl) ?_
  refine ev_aload_n dL_errors_244 rfl rfl ?_
  refine ev_iconst (v := -1) dL_errors_245 (by decide) ?_
  refine ev_iconst (v := nI 1) dL_errors_246 rfl ?_
  refine ev_iconst (v := nI 0) dL_errors_247 rfl ?_
  refine ev_rxW dL_errors_248 (w_call_1 hO.1 (c_X10_call_1 (by decide))) lk_L_128 ⟨Nat.le_of_ble_eq_true rfl, Nat.le_of_ble_eq_true rfl⟩ rfl (Nat.le_of_ble_eq_true rfl) ⟨by first | exact Nat.le_of_ble_eq_true rfl | omega, by first | exact Nat.le_of_ble_eq_true rfl | omega⟩ (fun n_248 => ?_)
  refine ev_ldc2 dL_errors_251 wq_L_36 ?_
  refine ev_lcS_ne (tgt := 343) dL_errors_254 dL_errors_255 (by decide) (by rfl) ?_
  refine ev_aload_n dL_errors_258 rfl rfl ?_
  refine ev_iconst (v := nI 0) dL_errors_259 rfl ?_
  refine ev_iconst (v := nI 0) dL_errors_260 rfl ?_
  refine ev_iconst (v := nI 0) dL_errors_261 rfl ?_
  refine ev_rxW dL_errors_262 (w_call_2 hO.1 (c_X10_call_2 (d := 0) (by decide) (by decide))) lk_L_128 ⟨Nat.le_of_ble_eq_true rfl, Nat.le_of_ble_eq_true rfl⟩ rfl (Nat.le_of_ble_eq_true rfl) ⟨by first | exact Nat.le_of_ble_eq_true rfl | omega, by first | exact Nat.le_of_ble_eq_true rfl | omega⟩ (fun n_262 => ?_)
  refine ev_ldc2 dL_errors_265 wq_L_17 ?_
  refine ev_lcS_ne (tgt := 343) dL_errors_268 dL_errors_269 (by decide) (by rfl) ?_
  refine ev_aload_n dL_errors_272 rfl rfl ?_
  refine ev_iconst (v := nI 0) dL_errors_273 rfl ?_
  refine ev_iconst (v := nI 2) dL_errors_274 rfl ?_
  refine ev_sipush (v := nI 676) dL_errors_275 rfl ?_
  refine ev_rxW dL_errors_278 (w_call_2 hO.1 (c_X10_call_2 (d := 0) (by decide) (by decide))) lk_L_128 ⟨Nat.le_of_ble_eq_true rfl, Nat.le_of_ble_eq_true rfl⟩ rfl (Nat.le_of_ble_eq_true rfl) ⟨by first | exact Nat.le_of_ble_eq_true rfl | omega, by first | exact Nat.le_of_ble_eq_true rfl | omega⟩ (fun n_278 => ?_)
  refine ev_ldc2 dL_errors_281 wq_L_17 ?_
  refine ev_lcS_ne (tgt := 343) dL_errors_284 dL_errors_285 (by decide) (by rfl) ?_
  refine ev_aload_n dL_errors_288 rfl rfl ?_
  refine ev_iconst (v := nI 0) dL_errors_289 rfl ?_
  refine ev_rxW dL_errors_290 (w_years_1 hO.1 (c_X10_years_1 (by decide))) lk_L_130 ⟨Nat.le_of_ble_eq_true rfl, Nat.le_of_ble_eq_true rfl⟩ rfl (Nat.le_of_ble_eq_true rfl) ⟨by first | exact Nat.le_of_ble_eq_true rfl | omega, by first | exact Nat.le_of_ble_eq_true rfl | omega⟩ (fun n_290 => ?_)
  refine ev_ldc2 dL_errors_293 wq_L_17 ?_
  refine ev_lcS_ne (tgt := 343) dL_errors_296 dL_errors_297 (by decide) (by rfl) ?_
  refine ev_aload_n dL_errors_300 rfl rfl ?_
  refine ev_iconst (v := nI 3) dL_errors_301 rfl ?_
  refine ev_iconst (v := nI 1) dL_errors_302 rfl ?_
  refine ev_rxW dL_errors_303 (w_set_1 hO.1 (c_X10_set_1 (by decide))) lk_L_132 ⟨Nat.le_of_ble_eq_true rfl, Nat.le_of_ble_eq_true rfl⟩ rfl (Nat.le_of_ble_eq_true rfl) ⟨by first | exact Nat.le_of_ble_eq_true rfl | omega, by first | exact Nat.le_of_ble_eq_true rfl | omega⟩ (fun n_303 => ?_)
  refine ev_ldc2 dL_errors_306 wq_L_17 ?_
  refine ev_lcS_ne (tgt := 343) dL_errors_309 dL_errors_310 (by decide) (by rfl) ?_
  refine ev_aload_n dL_errors_313 rfl rfl ?_
  refine ev_iconst (v := nI 1) dL_errors_314 rfl ?_
  refine ev_iconst (v := nI 0) dL_errors_315 rfl ?_
  refine ev_rxW dL_errors_316 (w_set_1 hO.1 (c_X10_set_1 (by decide))) lk_L_132 ⟨Nat.le_of_ble_eq_true rfl, Nat.le_of_ble_eq_true rfl⟩ rfl (Nat.le_of_ble_eq_true rfl) ⟨by first | exact Nat.le_of_ble_eq_true rfl | omega, by first | exact Nat.le_of_ble_eq_true rfl | omega⟩ (fun n_316 => ?_)
  refine ev_ldc2 dL_errors_319 wq_L_17 ?_
  refine ev_lcS_ne (tgt := 343) dL_errors_322 dL_errors_323 (by decide) (by rfl) ?_
  refine ev_aload_n dL_errors_326 rfl rfl ?_
  refine ev_iconst (v := nI 2) dL_errors_327 rfl ?_
  refine ev_iconst (v := -1) dL_errors_328 (by decide) ?_
  refine ev_rxW dL_errors_329 (w_set_1 hO.1 (c_X10_set_1 (by decide))) lk_L_132 ⟨Nat.le_of_ble_eq_true rfl, Nat.le_of_ble_eq_true rfl⟩ rfl (Nat.le_of_ble_eq_true rfl) ⟨by first | exact Nat.le_of_ble_eq_true rfl | omega, by first | exact Nat.le_of_ble_eq_true rfl | omega⟩ (fun n_329 => ?_)
  refine ev_ldc2 dL_errors_332 wq_L_17 ?_
  refine ev_lcS_ne (tgt := 343) dL_errors_335 dL_errors_336 (by decide) (by rfl) ?_
  refine ev_iconst (v := nI 1) dL_errors_339 rfl ?_
  refine ev_goto (tgt := 344) dL_errors_340 (by decide) ?_
  refine ev_istore dL_errors_344 (Nat.le_of_ble_eq_true rfl) ?_
  refine ev_iload dL_errors_346 rfl ?_
  refine ev_if_eqN (tgt := 605) dL_errors_348 (by decide) (by decide) (fun c => absurd c (by decide)) (fun _ => ?_)
  refine ev_aload_n dL_errors_351 rfl rfl ?_
  refine ev_iload_n dL_errors_352 rfl rfl ?_
  refine ev_iconst (v := nI 0) dL_errors_353 rfl ?_
  refine ev_iconst (v := nI 5) dL_errors_354 rfl ?_
  refine ev_iconst (v := nI 0) dL_errors_355 rfl ?_
  refine ev_rxW dL_errors_356 (w_why_1 hO.1 (c_X10_why_1 hO hB (nI_no (by omega) (Nat.lt_irrefl _)))) lk_L_134 ⟨Nat.le_of_ble_eq_true rfl, Nat.le_of_ble_eq_true rfl⟩ rfl (Nat.le_of_ble_eq_true rfl) ⟨by first | exact Nat.le_of_ble_eq_true rfl | omega, by first | exact Nat.le_of_ble_eq_true rfl | omega⟩ (fun n_356 => ?_)
  refine ev_ldc2 dL_errors_359 wq_L_36 ?_
  refine ev_lcS_ne (tgt := 605) dL_errors_362 dL_errors_363 (by decide) (by rfl) ?_
  refine ev_aload_n dL_errors_366 rfl rfl ?_
  refine ev_iload dL_errors_367 rfl ?_
  refine ev_rxW dL_errors_369 (w_endsIn_1 hO.1 (c_X10_endsIn_1 hO hB (nI_no (by omega) (Nat.lt_irrefl _)))) lk_L_136 ⟨Nat.le_of_ble_eq_true rfl, Nat.le_of_ble_eq_true rfl⟩ rfl (Nat.le_of_ble_eq_true rfl) ⟨by first | exact Nat.le_of_ble_eq_true rfl | omega, by first | exact Nat.le_of_ble_eq_true rfl | omega⟩ (fun n_369 => ?_)
  refine ev_ldc2 dL_errors_372 wq_L_36 ?_
  refine ev_lcS_ne (tgt := 605) dL_errors_375 dL_errors_376 (by decide) (by rfl) ?_
  refine ev_aload_n dL_errors_379 rfl rfl ?_
  refine ev_iload_n dL_errors_380 rfl rfl ?_
  refine ev_iconst (v := nI 0) dL_errors_381 rfl ?_
  refine ev_iconst (v := nI 3) dL_errors_382 rfl ?_
  refine ev_rxW dL_errors_383 (w_bestName_1 hO.1 (c_X10_bestName_1 hO hB (nI_no (by omega) (Nat.lt_irrefl _)))) lk_L_138 ⟨Nat.le_of_ble_eq_true rfl, Nat.le_of_ble_eq_true rfl⟩ rfl (Nat.le_of_ble_eq_true rfl) ⟨by first | exact Nat.le_of_ble_eq_true rfl | omega, by first | exact Nat.le_of_ble_eq_true rfl | omega⟩ (fun n_383 => ?_)
  refine ev_ldc2 dL_errors_386 wq_L_36 ?_
  refine ev_lcS_ne (tgt := 605) dL_errors_389 dL_errors_390 (by decide) (by rfl) ?_
  refine ev_iload_n dL_errors_393 rfl rfl ?_
  refine ev_if_eqN (tgt := 470) dL_errors_394 (by decide) (by omega) (fun c_394 => ?_) (fun c_394 => ?_)
  · refine ev_iload dL_errors_470 rfl ?_
    refine ev_if_eqN (tgt := 502) dL_errors_472 (by decide) (by omega) (fun c_472 => ?_) (fun c_472 => ?_)
    · refine ev_iload_n dL_errors_502 rfl rfl ?_
      refine ev_bipush (v := nI 12) dL_errors_503 rfl ?_
      refine ev_icmp_ltN (tgt := 522) dL_errors_505 (by decide) (by omega) (by omega) (fun c_505 => ?_) (fun c_505 => ?_)
      · refine ev_aload_n dL_errors_522 rfl rfl ?_
        refine ev_iconst (v := nI 0) dL_errors_523 rfl ?_
        refine ev_lconst (v := lN 0) dL_errors_524 rfl ?_
        refine ev_rxW dL_errors_525 (w_script_1 hO.1 (c_X10_runScript_1 (by decide))) lk_L_140 ⟨Nat.le_of_ble_eq_true rfl, Nat.le_of_ble_eq_true rfl⟩ rfl (Nat.le_of_ble_eq_true rfl) ⟨by first | exact Nat.le_of_ble_eq_true rfl | omega, by first | exact Nat.le_of_ble_eq_true rfl | omega⟩ (fun n_525 => ?_)
        refine ev_ldc2 dL_errors_528 wq_L_17 ?_
        refine ev_lcS_ne (tgt := 605) dL_errors_531 dL_errors_532 (by decide) (by rfl) ?_
        refine ev_aload_n dL_errors_535 rfl rfl ?_
        refine ev_iconst (v := nI 3) dL_errors_536 rfl ?_
        refine ev_ldc2 (v := lN 1000000000000000000) dL_errors_537 wq_L_144 ?_
        refine ev_rxW dL_errors_540 (w_script_1 hO.1 (c_X10_runScript_2 (m := 3) (by decide) (fun z => by
            have q := z.2
            rw [pk_lT (by decide)] at q
            exact absurd q (by decide)))) lk_L_140 ⟨Nat.le_of_ble_eq_true rfl, Nat.le_of_ble_eq_true rfl⟩ rfl (Nat.le_of_ble_eq_true rfl) ⟨by first | exact Nat.le_of_ble_eq_true rfl | omega, by first | exact Nat.le_of_ble_eq_true rfl | omega⟩ (fun n_540 => ?_)
        refine ev_ldc2 dL_errors_543 wq_L_17 ?_
        refine ev_lcS_ne (tgt := 605) dL_errors_546 dL_errors_547 (by decide) (by rfl) ?_
        refine ev_aload_n dL_errors_550 rfl rfl ?_
        refine ev_lconst (v := lN 1) dL_errors_551 rfl ?_
        refine ev_iconst (v := nI 0) dL_errors_552 rfl ?_
        refine ev_rxW dL_errors_553 (w_simulate_1 hO.1 (c_X10_simulate_1 (by decide))) lk_L_146 ⟨Nat.le_of_ble_eq_true rfl, Nat.le_of_ble_eq_true rfl⟩ rfl (Nat.le_of_ble_eq_true rfl) ⟨by first | exact Nat.le_of_ble_eq_true rfl | omega, by first | exact Nat.le_of_ble_eq_true rfl | omega⟩ (fun n_553 => ?_)
        refine ev_ldc2 dL_errors_556 wq_L_17 ?_
        refine ev_lcS_ne (tgt := 605) dL_errors_559 dL_errors_560 (by decide) (by rfl) ?_
        refine ev_aload_n dL_errors_563 rfl rfl ?_
        refine ev_iconst (v := nI 2) dL_errors_564 rfl ?_
        refine ev_rxW dL_errors_565 (w_save_1 hO.1 (c_X10_save_1 (by decide))) lk_L_149 ⟨Nat.le_of_ble_eq_true rfl, Nat.le_of_ble_eq_true rfl⟩ rfl (Nat.le_of_ble_eq_true rfl) ⟨by first | exact Nat.le_of_ble_eq_true rfl | omega, by first | exact Nat.le_of_ble_eq_true rfl | omega⟩ (fun n_565 => ?_)
        refine ev_ldc2 dL_errors_568 wq_L_36 ?_
        refine ev_lcS_ne (tgt := 605) dL_errors_571 dL_errors_572 (by decide) (by rfl) ?_
        refine ev_aload_n dL_errors_575 rfl rfl ?_
        refine ev_iconst (v := nI 2) dL_errors_576 rfl ?_
        refine ev_rxW dL_errors_577 (w_restore_1 hO.1 (c_X10_restore_1 (by decide))) lk_L_151 ⟨Nat.le_of_ble_eq_true rfl, Nat.le_of_ble_eq_true rfl⟩ rfl (Nat.le_of_ble_eq_true rfl) ⟨by first | exact Nat.le_of_ble_eq_true rfl | omega, by first | exact Nat.le_of_ble_eq_true rfl | omega⟩ (fun n_577 => ?_)
        refine ev_ldc2 dL_errors_580 wq_L_36 ?_
        refine ev_lcS_ne (tgt := 605) dL_errors_583 dL_errors_584 (by decide) (by rfl) ?_
        refine ev_aload_n dL_errors_587 rfl rfl ?_
        refine ev_sipush (v := nI 256) dL_errors_588 rfl ?_
        refine ev_rxW dL_errors_591 (w_append_1 hO.1 (c_X10_append_n (by decide))) lk_L_153 ⟨Nat.le_of_ble_eq_true rfl, Nat.le_of_ble_eq_true rfl⟩ rfl (Nat.le_of_ble_eq_true rfl) ⟨by first | exact Nat.le_of_ble_eq_true rfl | omega, by first | exact Nat.le_of_ble_eq_true rfl | omega⟩ (fun n_591 => ?_)
        refine ev_ldc2 dL_errors_594 wq_L_17 ?_
        refine ev_lcS_ne (tgt := 605) dL_errors_597 dL_errors_598 (by decide) (by rfl) ?_
        refine ev_iconst (v := nI 1) dL_errors_601 rfl ?_
        refine ev_goto (tgt := 606) dL_errors_602 (by decide) ?_
        refine ev_istore dL_errors_606 (Nat.le_of_ble_eq_true rfl) ?_
        refine ev_iload dL_errors_608 rfl ?_
        refine ev_if_eqN (tgt := 626) dL_errors_610 (by decide) (by decide) (fun c => absurd c (by decide)) (fun _ => ?_)
        refine ev_aload_n dL_errors_613 rfl rfl ?_
        refine ev_roN dL_errors_614 (c_L_now hO hI hT) lk_L_110 ⟨Nat.le_of_ble_eq_true rfl, Nat.le_of_ble_eq_true rfl⟩ rfl (Nat.le_of_ble_eq_true rfl) ⟨by first | exact Nat.le_of_ble_eq_true rfl | omega, by first | exact Nat.le_of_ble_eq_true rfl | omega⟩ (fun n_614 => ?_)
        refine ev_lload_n dL_errors_617 rfl rfl ?_
        refine ev_lcS_ne (tgt := 626) dL_errors_618 dL_errors_619 (by decide) (by rfl) ?_
        refine ev_iconst (v := nI 1) dL_errors_622 rfl ?_
        refine ev_goto (tgt := 627) dL_errors_623 (by decide) ?_
        exact ev_iret dL_errors_627 rfl (by first | rfl | exact bI_n _) (by rfl) (by rfl) (fun _ e => nomatch e) (by first | exact Nat.le_of_ble_eq_true rfl | omega) (by first | exact Nat.le_of_ble_eq_true rfl | omega)
      · refine ev_aload_n dL_errors_508 rfl rfl ?_
        refine ev_iconst (v := nI 0) dL_errors_509 rfl ?_
        refine ev_iconst (v := nI 0) dL_errors_510 rfl ?_
        refine ev_iconst (v := nI 0) dL_errors_511 rfl ?_
        refine ev_rxW dL_errors_512 (w_person_3 hO.1 (c_X10_person_4 (a := 0) (f := 0) (d := 0) hO hB (by decide) (by decide) (by decide) (by omega))) lk_L_121 ⟨Nat.le_of_ble_eq_true rfl, Nat.le_of_ble_eq_true rfl⟩ rfl (Nat.le_of_ble_eq_true rfl) ⟨by first | exact Nat.le_of_ble_eq_true rfl | omega, by first | exact Nat.le_of_ble_eq_true rfl | omega⟩ (fun n_512 => ?_)
        refine ev_ldc2 dL_errors_515 wq_L_21 ?_
        refine ev_lcS_ne (tgt := 605) dL_errors_518 dL_errors_519 (by decide) (by rfl) ?_
        refine ev_aload_n dL_errors_522 rfl rfl ?_
        refine ev_iconst (v := nI 0) dL_errors_523 rfl ?_
        refine ev_lconst (v := lN 0) dL_errors_524 rfl ?_
        refine ev_rxW dL_errors_525 (w_script_1 hO.1 (c_X10_runScript_1 (by decide))) lk_L_140 ⟨Nat.le_of_ble_eq_true rfl, Nat.le_of_ble_eq_true rfl⟩ rfl (Nat.le_of_ble_eq_true rfl) ⟨by first | exact Nat.le_of_ble_eq_true rfl | omega, by first | exact Nat.le_of_ble_eq_true rfl | omega⟩ (fun n_525 => ?_)
        refine ev_ldc2 dL_errors_528 wq_L_17 ?_
        refine ev_lcS_ne (tgt := 605) dL_errors_531 dL_errors_532 (by decide) (by rfl) ?_
        refine ev_aload_n dL_errors_535 rfl rfl ?_
        refine ev_iconst (v := nI 3) dL_errors_536 rfl ?_
        refine ev_ldc2 (v := lN 1000000000000000000) dL_errors_537 wq_L_144 ?_
        refine ev_rxW dL_errors_540 (w_script_1 hO.1 (c_X10_runScript_2 (m := 3) (by decide) (fun z => by
            have q := z.2
            rw [pk_lT (by decide)] at q
            exact absurd q (by decide)))) lk_L_140 ⟨Nat.le_of_ble_eq_true rfl, Nat.le_of_ble_eq_true rfl⟩ rfl (Nat.le_of_ble_eq_true rfl) ⟨by first | exact Nat.le_of_ble_eq_true rfl | omega, by first | exact Nat.le_of_ble_eq_true rfl | omega⟩ (fun n_540 => ?_)
        refine ev_ldc2 dL_errors_543 wq_L_17 ?_
        refine ev_lcS_ne (tgt := 605) dL_errors_546 dL_errors_547 (by decide) (by rfl) ?_
        refine ev_aload_n dL_errors_550 rfl rfl ?_
        refine ev_lconst (v := lN 1) dL_errors_551 rfl ?_
        refine ev_iconst (v := nI 0) dL_errors_552 rfl ?_
        refine ev_rxW dL_errors_553 (w_simulate_1 hO.1 (c_X10_simulate_1 (by decide))) lk_L_146 ⟨Nat.le_of_ble_eq_true rfl, Nat.le_of_ble_eq_true rfl⟩ rfl (Nat.le_of_ble_eq_true rfl) ⟨by first | exact Nat.le_of_ble_eq_true rfl | omega, by first | exact Nat.le_of_ble_eq_true rfl | omega⟩ (fun n_553 => ?_)
        refine ev_ldc2 dL_errors_556 wq_L_17 ?_
        refine ev_lcS_ne (tgt := 605) dL_errors_559 dL_errors_560 (by decide) (by rfl) ?_
        refine ev_aload_n dL_errors_563 rfl rfl ?_
        refine ev_iconst (v := nI 2) dL_errors_564 rfl ?_
        refine ev_rxW dL_errors_565 (w_save_1 hO.1 (c_X10_save_1 (by decide))) lk_L_149 ⟨Nat.le_of_ble_eq_true rfl, Nat.le_of_ble_eq_true rfl⟩ rfl (Nat.le_of_ble_eq_true rfl) ⟨by first | exact Nat.le_of_ble_eq_true rfl | omega, by first | exact Nat.le_of_ble_eq_true rfl | omega⟩ (fun n_565 => ?_)
        refine ev_ldc2 dL_errors_568 wq_L_36 ?_
        refine ev_lcS_ne (tgt := 605) dL_errors_571 dL_errors_572 (by decide) (by rfl) ?_
        refine ev_aload_n dL_errors_575 rfl rfl ?_
        refine ev_iconst (v := nI 2) dL_errors_576 rfl ?_
        refine ev_rxW dL_errors_577 (w_restore_1 hO.1 (c_X10_restore_1 (by decide))) lk_L_151 ⟨Nat.le_of_ble_eq_true rfl, Nat.le_of_ble_eq_true rfl⟩ rfl (Nat.le_of_ble_eq_true rfl) ⟨by first | exact Nat.le_of_ble_eq_true rfl | omega, by first | exact Nat.le_of_ble_eq_true rfl | omega⟩ (fun n_577 => ?_)
        refine ev_ldc2 dL_errors_580 wq_L_36 ?_
        refine ev_lcS_ne (tgt := 605) dL_errors_583 dL_errors_584 (by decide) (by rfl) ?_
        refine ev_aload_n dL_errors_587 rfl rfl ?_
        refine ev_sipush (v := nI 256) dL_errors_588 rfl ?_
        refine ev_rxW dL_errors_591 (w_append_1 hO.1 (c_X10_append_n (by decide))) lk_L_153 ⟨Nat.le_of_ble_eq_true rfl, Nat.le_of_ble_eq_true rfl⟩ rfl (Nat.le_of_ble_eq_true rfl) ⟨by first | exact Nat.le_of_ble_eq_true rfl | omega, by first | exact Nat.le_of_ble_eq_true rfl | omega⟩ (fun n_591 => ?_)
        refine ev_ldc2 dL_errors_594 wq_L_17 ?_
        refine ev_lcS_ne (tgt := 605) dL_errors_597 dL_errors_598 (by decide) (by rfl) ?_
        refine ev_iconst (v := nI 1) dL_errors_601 rfl ?_
        refine ev_goto (tgt := 606) dL_errors_602 (by decide) ?_
        refine ev_istore dL_errors_606 (Nat.le_of_ble_eq_true rfl) ?_
        refine ev_iload dL_errors_608 rfl ?_
        refine ev_if_eqN (tgt := 626) dL_errors_610 (by decide) (by decide) (fun c => absurd c (by decide)) (fun _ => ?_)
        refine ev_aload_n dL_errors_613 rfl rfl ?_
        refine ev_roN dL_errors_614 (c_L_now hO hI hT) lk_L_110 ⟨Nat.le_of_ble_eq_true rfl, Nat.le_of_ble_eq_true rfl⟩ rfl (Nat.le_of_ble_eq_true rfl) ⟨by first | exact Nat.le_of_ble_eq_true rfl | omega, by first | exact Nat.le_of_ble_eq_true rfl | omega⟩ (fun n_614 => ?_)
        refine ev_lload_n dL_errors_617 rfl rfl ?_
        refine ev_lcS_ne (tgt := 626) dL_errors_618 dL_errors_619 (by decide) (by rfl) ?_
        refine ev_iconst (v := nI 1) dL_errors_622 rfl ?_
        refine ev_goto (tgt := 627) dL_errors_623 (by decide) ?_
        exact ev_iret dL_errors_627 rfl (by first | rfl | exact bI_n _) (by rfl) (by rfl) (fun _ e => nomatch e) (by first | exact Nat.le_of_ble_eq_true rfl | omega) (by first | exact Nat.le_of_ble_eq_true rfl | omega)
    · refine ev_aload_n dL_errors_475 rfl rfl ?_
      refine ev_iconst (v := nI 0) dL_errors_476 rfl ?_
      refine ev_bipush (v := nI 8) dL_errors_477 rfl ?_
      refine ev_rxW dL_errors_479 (w_nameOf_2 hO.1 (c_X10_nameOf_2 (p := 0) hO hB (by omega) (by decide))) lk_L_108 ⟨Nat.le_of_ble_eq_true rfl, Nat.le_of_ble_eq_true rfl⟩ rfl (Nat.le_of_ble_eq_true rfl) ⟨by first | exact Nat.le_of_ble_eq_true rfl | omega, by first | exact Nat.le_of_ble_eq_true rfl | omega⟩ (fun n_479 => ?_)
      refine ev_ldc2 dL_errors_482 wq_L_17 ?_
      refine ev_lcS_ne (tgt := 605) dL_errors_485 dL_errors_486 (by decide) (by rfl) ?_
      refine ev_aload_n dL_errors_489 rfl rfl ?_
      refine ev_iconst (v := nI 0) dL_errors_490 rfl ?_
      refine ev_iconst (v := -1) dL_errors_491 (by decide) ?_
      refine ev_rxW dL_errors_492 (w_letter_1 hO.1 (c_X10_letter_2 (k := 0) hO hB (by omega) (by decide))) lk_L_114 ⟨Nat.le_of_ble_eq_true rfl, Nat.le_of_ble_eq_true rfl⟩ rfl (Nat.le_of_ble_eq_true rfl) ⟨by first | exact Nat.le_of_ble_eq_true rfl | omega, by first | exact Nat.le_of_ble_eq_true rfl | omega⟩ (fun n_492 => ?_)
      refine ev_ldc2 dL_errors_495 wq_L_36 ?_
      refine ev_lcS_ne (tgt := 605) dL_errors_498 dL_errors_499 (by decide) (by rfl) ?_
      refine ev_iload_n dL_errors_502 rfl rfl ?_
      refine ev_bipush (v := nI 12) dL_errors_503 rfl ?_
      refine ev_icmp_ltN (tgt := 522) dL_errors_505 (by decide) (by omega) (by omega) (fun c_505 => ?_) (fun c_505 => ?_)
      · refine ev_aload_n dL_errors_522 rfl rfl ?_
        refine ev_iconst (v := nI 0) dL_errors_523 rfl ?_
        refine ev_lconst (v := lN 0) dL_errors_524 rfl ?_
        refine ev_rxW dL_errors_525 (w_script_1 hO.1 (c_X10_runScript_1 (by decide))) lk_L_140 ⟨Nat.le_of_ble_eq_true rfl, Nat.le_of_ble_eq_true rfl⟩ rfl (Nat.le_of_ble_eq_true rfl) ⟨by first | exact Nat.le_of_ble_eq_true rfl | omega, by first | exact Nat.le_of_ble_eq_true rfl | omega⟩ (fun n_525 => ?_)
        refine ev_ldc2 dL_errors_528 wq_L_17 ?_
        refine ev_lcS_ne (tgt := 605) dL_errors_531 dL_errors_532 (by decide) (by rfl) ?_
        refine ev_aload_n dL_errors_535 rfl rfl ?_
        refine ev_iconst (v := nI 3) dL_errors_536 rfl ?_
        refine ev_ldc2 (v := lN 1000000000000000000) dL_errors_537 wq_L_144 ?_
        refine ev_rxW dL_errors_540 (w_script_1 hO.1 (c_X10_runScript_2 (m := 3) (by decide) (fun z => by
            have q := z.2
            rw [pk_lT (by decide)] at q
            exact absurd q (by decide)))) lk_L_140 ⟨Nat.le_of_ble_eq_true rfl, Nat.le_of_ble_eq_true rfl⟩ rfl (Nat.le_of_ble_eq_true rfl) ⟨by first | exact Nat.le_of_ble_eq_true rfl | omega, by first | exact Nat.le_of_ble_eq_true rfl | omega⟩ (fun n_540 => ?_)
        refine ev_ldc2 dL_errors_543 wq_L_17 ?_
        refine ev_lcS_ne (tgt := 605) dL_errors_546 dL_errors_547 (by decide) (by rfl) ?_
        refine ev_aload_n dL_errors_550 rfl rfl ?_
        refine ev_lconst (v := lN 1) dL_errors_551 rfl ?_
        refine ev_iconst (v := nI 0) dL_errors_552 rfl ?_
        refine ev_rxW dL_errors_553 (w_simulate_1 hO.1 (c_X10_simulate_1 (by decide))) lk_L_146 ⟨Nat.le_of_ble_eq_true rfl, Nat.le_of_ble_eq_true rfl⟩ rfl (Nat.le_of_ble_eq_true rfl) ⟨by first | exact Nat.le_of_ble_eq_true rfl | omega, by first | exact Nat.le_of_ble_eq_true rfl | omega⟩ (fun n_553 => ?_)
        refine ev_ldc2 dL_errors_556 wq_L_17 ?_
        refine ev_lcS_ne (tgt := 605) dL_errors_559 dL_errors_560 (by decide) (by rfl) ?_
        refine ev_aload_n dL_errors_563 rfl rfl ?_
        refine ev_iconst (v := nI 2) dL_errors_564 rfl ?_
        refine ev_rxW dL_errors_565 (w_save_1 hO.1 (c_X10_save_1 (by decide))) lk_L_149 ⟨Nat.le_of_ble_eq_true rfl, Nat.le_of_ble_eq_true rfl⟩ rfl (Nat.le_of_ble_eq_true rfl) ⟨by first | exact Nat.le_of_ble_eq_true rfl | omega, by first | exact Nat.le_of_ble_eq_true rfl | omega⟩ (fun n_565 => ?_)
        refine ev_ldc2 dL_errors_568 wq_L_36 ?_
        refine ev_lcS_ne (tgt := 605) dL_errors_571 dL_errors_572 (by decide) (by rfl) ?_
        refine ev_aload_n dL_errors_575 rfl rfl ?_
        refine ev_iconst (v := nI 2) dL_errors_576 rfl ?_
        refine ev_rxW dL_errors_577 (w_restore_1 hO.1 (c_X10_restore_1 (by decide))) lk_L_151 ⟨Nat.le_of_ble_eq_true rfl, Nat.le_of_ble_eq_true rfl⟩ rfl (Nat.le_of_ble_eq_true rfl) ⟨by first | exact Nat.le_of_ble_eq_true rfl | omega, by first | exact Nat.le_of_ble_eq_true rfl | omega⟩ (fun n_577 => ?_)
        refine ev_ldc2 dL_errors_580 wq_L_36 ?_
        refine ev_lcS_ne (tgt := 605) dL_errors_583 dL_errors_584 (by decide) (by rfl) ?_
        refine ev_aload_n dL_errors_587 rfl rfl ?_
        refine ev_sipush (v := nI 256) dL_errors_588 rfl ?_
        refine ev_rxW dL_errors_591 (w_append_1 hO.1 (c_X10_append_n (by decide))) lk_L_153 ⟨Nat.le_of_ble_eq_true rfl, Nat.le_of_ble_eq_true rfl⟩ rfl (Nat.le_of_ble_eq_true rfl) ⟨by first | exact Nat.le_of_ble_eq_true rfl | omega, by first | exact Nat.le_of_ble_eq_true rfl | omega⟩ (fun n_591 => ?_)
        refine ev_ldc2 dL_errors_594 wq_L_17 ?_
        refine ev_lcS_ne (tgt := 605) dL_errors_597 dL_errors_598 (by decide) (by rfl) ?_
        refine ev_iconst (v := nI 1) dL_errors_601 rfl ?_
        refine ev_goto (tgt := 606) dL_errors_602 (by decide) ?_
        refine ev_istore dL_errors_606 (Nat.le_of_ble_eq_true rfl) ?_
        refine ev_iload dL_errors_608 rfl ?_
        refine ev_if_eqN (tgt := 626) dL_errors_610 (by decide) (by decide) (fun c => absurd c (by decide)) (fun _ => ?_)
        refine ev_aload_n dL_errors_613 rfl rfl ?_
        refine ev_roN dL_errors_614 (c_L_now hO hI hT) lk_L_110 ⟨Nat.le_of_ble_eq_true rfl, Nat.le_of_ble_eq_true rfl⟩ rfl (Nat.le_of_ble_eq_true rfl) ⟨by first | exact Nat.le_of_ble_eq_true rfl | omega, by first | exact Nat.le_of_ble_eq_true rfl | omega⟩ (fun n_614 => ?_)
        refine ev_lload_n dL_errors_617 rfl rfl ?_
        refine ev_lcS_ne (tgt := 626) dL_errors_618 dL_errors_619 (by decide) (by rfl) ?_
        refine ev_iconst (v := nI 1) dL_errors_622 rfl ?_
        refine ev_goto (tgt := 627) dL_errors_623 (by decide) ?_
        exact ev_iret dL_errors_627 rfl (by first | rfl | exact bI_n _) (by rfl) (by rfl) (fun _ e => nomatch e) (by first | exact Nat.le_of_ble_eq_true rfl | omega) (by first | exact Nat.le_of_ble_eq_true rfl | omega)
      · refine ev_aload_n dL_errors_508 rfl rfl ?_
        refine ev_iconst (v := nI 0) dL_errors_509 rfl ?_
        refine ev_iconst (v := nI 0) dL_errors_510 rfl ?_
        refine ev_iconst (v := nI 0) dL_errors_511 rfl ?_
        refine ev_rxW dL_errors_512 (w_person_3 hO.1 (c_X10_person_4 (a := 0) (f := 0) (d := 0) hO hB (by decide) (by decide) (by decide) (by omega))) lk_L_121 ⟨Nat.le_of_ble_eq_true rfl, Nat.le_of_ble_eq_true rfl⟩ rfl (Nat.le_of_ble_eq_true rfl) ⟨by first | exact Nat.le_of_ble_eq_true rfl | omega, by first | exact Nat.le_of_ble_eq_true rfl | omega⟩ (fun n_512 => ?_)
        refine ev_ldc2 dL_errors_515 wq_L_21 ?_
        refine ev_lcS_ne (tgt := 605) dL_errors_518 dL_errors_519 (by decide) (by rfl) ?_
        refine ev_aload_n dL_errors_522 rfl rfl ?_
        refine ev_iconst (v := nI 0) dL_errors_523 rfl ?_
        refine ev_lconst (v := lN 0) dL_errors_524 rfl ?_
        refine ev_rxW dL_errors_525 (w_script_1 hO.1 (c_X10_runScript_1 (by decide))) lk_L_140 ⟨Nat.le_of_ble_eq_true rfl, Nat.le_of_ble_eq_true rfl⟩ rfl (Nat.le_of_ble_eq_true rfl) ⟨by first | exact Nat.le_of_ble_eq_true rfl | omega, by first | exact Nat.le_of_ble_eq_true rfl | omega⟩ (fun n_525 => ?_)
        refine ev_ldc2 dL_errors_528 wq_L_17 ?_
        refine ev_lcS_ne (tgt := 605) dL_errors_531 dL_errors_532 (by decide) (by rfl) ?_
        refine ev_aload_n dL_errors_535 rfl rfl ?_
        refine ev_iconst (v := nI 3) dL_errors_536 rfl ?_
        refine ev_ldc2 (v := lN 1000000000000000000) dL_errors_537 wq_L_144 ?_
        refine ev_rxW dL_errors_540 (w_script_1 hO.1 (c_X10_runScript_2 (m := 3) (by decide) (fun z => by
            have q := z.2
            rw [pk_lT (by decide)] at q
            exact absurd q (by decide)))) lk_L_140 ⟨Nat.le_of_ble_eq_true rfl, Nat.le_of_ble_eq_true rfl⟩ rfl (Nat.le_of_ble_eq_true rfl) ⟨by first | exact Nat.le_of_ble_eq_true rfl | omega, by first | exact Nat.le_of_ble_eq_true rfl | omega⟩ (fun n_540 => ?_)
        refine ev_ldc2 dL_errors_543 wq_L_17 ?_
        refine ev_lcS_ne (tgt := 605) dL_errors_546 dL_errors_547 (by decide) (by rfl) ?_
        refine ev_aload_n dL_errors_550 rfl rfl ?_
        refine ev_lconst (v := lN 1) dL_errors_551 rfl ?_
        refine ev_iconst (v := nI 0) dL_errors_552 rfl ?_
        refine ev_rxW dL_errors_553 (w_simulate_1 hO.1 (c_X10_simulate_1 (by decide))) lk_L_146 ⟨Nat.le_of_ble_eq_true rfl, Nat.le_of_ble_eq_true rfl⟩ rfl (Nat.le_of_ble_eq_true rfl) ⟨by first | exact Nat.le_of_ble_eq_true rfl | omega, by first | exact Nat.le_of_ble_eq_true rfl | omega⟩ (fun n_553 => ?_)
        refine ev_ldc2 dL_errors_556 wq_L_17 ?_
        refine ev_lcS_ne (tgt := 605) dL_errors_559 dL_errors_560 (by decide) (by rfl) ?_
        refine ev_aload_n dL_errors_563 rfl rfl ?_
        refine ev_iconst (v := nI 2) dL_errors_564 rfl ?_
        refine ev_rxW dL_errors_565 (w_save_1 hO.1 (c_X10_save_1 (by decide))) lk_L_149 ⟨Nat.le_of_ble_eq_true rfl, Nat.le_of_ble_eq_true rfl⟩ rfl (Nat.le_of_ble_eq_true rfl) ⟨by first | exact Nat.le_of_ble_eq_true rfl | omega, by first | exact Nat.le_of_ble_eq_true rfl | omega⟩ (fun n_565 => ?_)
        refine ev_ldc2 dL_errors_568 wq_L_36 ?_
        refine ev_lcS_ne (tgt := 605) dL_errors_571 dL_errors_572 (by decide) (by rfl) ?_
        refine ev_aload_n dL_errors_575 rfl rfl ?_
        refine ev_iconst (v := nI 2) dL_errors_576 rfl ?_
        refine ev_rxW dL_errors_577 (w_restore_1 hO.1 (c_X10_restore_1 (by decide))) lk_L_151 ⟨Nat.le_of_ble_eq_true rfl, Nat.le_of_ble_eq_true rfl⟩ rfl (Nat.le_of_ble_eq_true rfl) ⟨by first | exact Nat.le_of_ble_eq_true rfl | omega, by first | exact Nat.le_of_ble_eq_true rfl | omega⟩ (fun n_577 => ?_)
        refine ev_ldc2 dL_errors_580 wq_L_36 ?_
        refine ev_lcS_ne (tgt := 605) dL_errors_583 dL_errors_584 (by decide) (by rfl) ?_
        refine ev_aload_n dL_errors_587 rfl rfl ?_
        refine ev_sipush (v := nI 256) dL_errors_588 rfl ?_
        refine ev_rxW dL_errors_591 (w_append_1 hO.1 (c_X10_append_n (by decide))) lk_L_153 ⟨Nat.le_of_ble_eq_true rfl, Nat.le_of_ble_eq_true rfl⟩ rfl (Nat.le_of_ble_eq_true rfl) ⟨by first | exact Nat.le_of_ble_eq_true rfl | omega, by first | exact Nat.le_of_ble_eq_true rfl | omega⟩ (fun n_591 => ?_)
        refine ev_ldc2 dL_errors_594 wq_L_17 ?_
        refine ev_lcS_ne (tgt := 605) dL_errors_597 dL_errors_598 (by decide) (by rfl) ?_
        refine ev_iconst (v := nI 1) dL_errors_601 rfl ?_
        refine ev_goto (tgt := 606) dL_errors_602 (by decide) ?_
        refine ev_istore dL_errors_606 (Nat.le_of_ble_eq_true rfl) ?_
        refine ev_iload dL_errors_608 rfl ?_
        refine ev_if_eqN (tgt := 626) dL_errors_610 (by decide) (by decide) (fun c => absurd c (by decide)) (fun _ => ?_)
        refine ev_aload_n dL_errors_613 rfl rfl ?_
        refine ev_roN dL_errors_614 (c_L_now hO hI hT) lk_L_110 ⟨Nat.le_of_ble_eq_true rfl, Nat.le_of_ble_eq_true rfl⟩ rfl (Nat.le_of_ble_eq_true rfl) ⟨by first | exact Nat.le_of_ble_eq_true rfl | omega, by first | exact Nat.le_of_ble_eq_true rfl | omega⟩ (fun n_614 => ?_)
        refine ev_lload_n dL_errors_617 rfl rfl ?_
        refine ev_lcS_ne (tgt := 626) dL_errors_618 dL_errors_619 (by decide) (by rfl) ?_
        refine ev_iconst (v := nI 1) dL_errors_622 rfl ?_
        refine ev_goto (tgt := 627) dL_errors_623 (by decide) ?_
        exact ev_iret dL_errors_627 rfl (by first | rfl | exact bI_n _) (by rfl) (by rfl) (fun _ e => nomatch e) (by first | exact Nat.le_of_ble_eq_true rfl | omega) (by first | exact Nat.le_of_ble_eq_true rfl | omega)
  · refine ev_aload_n dL_errors_397 rfl rfl ?_
    refine ev_iconst (v := nI 0) dL_errors_398 rfl ?_
    refine ev_iconst (v := nI 4) dL_errors_399 rfl ?_
    refine ev_rxW dL_errors_400 (w_sit_1 hO.1 (c_X10_sit_2 (p := 0) hO hB (by omega) (by decide))) lk_L_124 ⟨Nat.le_of_ble_eq_true rfl, Nat.le_of_ble_eq_true rfl⟩ rfl (Nat.le_of_ble_eq_true rfl) ⟨by first | exact Nat.le_of_ble_eq_true rfl | omega, by first | exact Nat.le_of_ble_eq_true rfl | omega⟩ (fun n_400 => ?_)
    refine ev_ldc2 dL_errors_403 wq_L_36 ?_
    refine ev_lcS_ne (tgt := 605) dL_errors_406 dL_errors_407 (by decide) (by rfl) ?_
    refine ev_aload_n dL_errors_410 rfl rfl ?_
    refine ev_iconst (v := nI 0) dL_errors_411 rfl ?_
    refine ev_iconst (v := nI 0) dL_errors_412 rfl ?_
    refine ev_iconst (v := nI 0) dL_errors_413 rfl ?_
    refine ev_iconst (v := nI 0) dL_errors_414 rfl ?_
    refine ev_rxW dL_errors_415 (w_give_2 hO.1 (c_X10_give_3 (g := 0) (p := 0) hO hB (by omega) (by omega) (by decide))) lk_L_126 ⟨Nat.le_of_ble_eq_true rfl, Nat.le_of_ble_eq_true rfl⟩ rfl (Nat.le_of_ble_eq_true rfl) ⟨by first | exact Nat.le_of_ble_eq_true rfl | omega, by first | exact Nat.le_of_ble_eq_true rfl | omega⟩ (fun n_415 => ?_)
    refine ev_ldc2 dL_errors_418 wq_L_17 ?_
    refine ev_lcS_ne (tgt := 605) dL_errors_421 dL_errors_422 (by decide) (by rfl) ?_
    refine ev_aload_n dL_errors_425 rfl rfl ?_
    refine ev_iconst (v := nI 0) dL_errors_426 rfl ?_
    refine ev_iconst (v := nI 0) dL_errors_427 rfl ?_
    refine ev_iconst (v := nI 3) dL_errors_428 rfl ?_
    refine ev_sipush (v := nI 17576) dL_errors_429 rfl ?_
    refine ev_rxW dL_errors_432 (w_why_2 hO.1 (c_X10_why_3 (g := 0) (p := 0) hO hB (by omega) (by omega) (by decide))) lk_L_134 ⟨Nat.le_of_ble_eq_true rfl, Nat.le_of_ble_eq_true rfl⟩ rfl (Nat.le_of_ble_eq_true rfl) ⟨by first | exact Nat.le_of_ble_eq_true rfl | omega, by first | exact Nat.le_of_ble_eq_true rfl | omega⟩ (fun n_432 => ?_)
    refine ev_ldc2 dL_errors_435 wq_L_17 ?_
    refine ev_lcS_ne (tgt := 605) dL_errors_438 dL_errors_439 (by decide) (by rfl) ?_
    refine ev_aload_n dL_errors_442 rfl rfl ?_
    refine ev_iconst (v := nI 0) dL_errors_443 rfl ?_
    refine ev_iconst (v := nI 0) dL_errors_444 rfl ?_
    refine ev_iconst (v := nI 0) dL_errors_445 rfl ?_
    refine ev_rxW dL_errors_446 (w_bestName_2 hO.1 (c_X10_bestName_3 (g := 0) (p := 0) hO hB (by omega) (by omega) (by decide))) lk_L_138 ⟨Nat.le_of_ble_eq_true rfl, Nat.le_of_ble_eq_true rfl⟩ rfl (Nat.le_of_ble_eq_true rfl) ⟨by first | exact Nat.le_of_ble_eq_true rfl | omega, by first | exact Nat.le_of_ble_eq_true rfl | omega⟩ (fun n_446 => ?_)
    refine ev_ldc2 dL_errors_449 wq_L_17 ?_
    refine ev_lcS_ne (tgt := 605) dL_errors_452 dL_errors_453 (by decide) (by rfl) ?_
    refine ev_aload_n dL_errors_456 rfl rfl ?_
    refine ev_iconst (v := nI 0) dL_errors_457 rfl ?_
    refine ev_bipush (v := nI 9) dL_errors_458 rfl ?_
    refine ev_rxW dL_errors_460 (w_personOf_2 hO.1 (c_X10_personOf_2 (p := 0) hO hB (by omega) (by decide))) lk_L_105 ⟨Nat.le_of_ble_eq_true rfl, Nat.le_of_ble_eq_true rfl⟩ rfl (Nat.le_of_ble_eq_true rfl) ⟨by first | exact Nat.le_of_ble_eq_true rfl | omega, by first | exact Nat.le_of_ble_eq_true rfl | omega⟩ (fun n_460 => ?_)
    refine ev_ldc2 dL_errors_463 wq_L_17 ?_
    refine ev_lcS_ne (tgt := 605) dL_errors_466 dL_errors_467 (by decide) (by rfl) ?_
    refine ev_iload dL_errors_470 rfl ?_
    refine ev_if_eqN (tgt := 502) dL_errors_472 (by decide) (by omega) (fun c_472 => ?_) (fun c_472 => ?_)
    · refine ev_iload_n dL_errors_502 rfl rfl ?_
      refine ev_bipush (v := nI 12) dL_errors_503 rfl ?_
      refine ev_icmp_ltN (tgt := 522) dL_errors_505 (by decide) (by omega) (by omega) (fun c_505 => ?_) (fun c_505 => ?_)
      · refine ev_aload_n dL_errors_522 rfl rfl ?_
        refine ev_iconst (v := nI 0) dL_errors_523 rfl ?_
        refine ev_lconst (v := lN 0) dL_errors_524 rfl ?_
        refine ev_rxW dL_errors_525 (w_script_1 hO.1 (c_X10_runScript_1 (by decide))) lk_L_140 ⟨Nat.le_of_ble_eq_true rfl, Nat.le_of_ble_eq_true rfl⟩ rfl (Nat.le_of_ble_eq_true rfl) ⟨by first | exact Nat.le_of_ble_eq_true rfl | omega, by first | exact Nat.le_of_ble_eq_true rfl | omega⟩ (fun n_525 => ?_)
        refine ev_ldc2 dL_errors_528 wq_L_17 ?_
        refine ev_lcS_ne (tgt := 605) dL_errors_531 dL_errors_532 (by decide) (by rfl) ?_
        refine ev_aload_n dL_errors_535 rfl rfl ?_
        refine ev_iconst (v := nI 3) dL_errors_536 rfl ?_
        refine ev_ldc2 (v := lN 1000000000000000000) dL_errors_537 wq_L_144 ?_
        refine ev_rxW dL_errors_540 (w_script_1 hO.1 (c_X10_runScript_2 (m := 3) (by decide) (fun z => by
            have q := z.2
            rw [pk_lT (by decide)] at q
            exact absurd q (by decide)))) lk_L_140 ⟨Nat.le_of_ble_eq_true rfl, Nat.le_of_ble_eq_true rfl⟩ rfl (Nat.le_of_ble_eq_true rfl) ⟨by first | exact Nat.le_of_ble_eq_true rfl | omega, by first | exact Nat.le_of_ble_eq_true rfl | omega⟩ (fun n_540 => ?_)
        refine ev_ldc2 dL_errors_543 wq_L_17 ?_
        refine ev_lcS_ne (tgt := 605) dL_errors_546 dL_errors_547 (by decide) (by rfl) ?_
        refine ev_aload_n dL_errors_550 rfl rfl ?_
        refine ev_lconst (v := lN 1) dL_errors_551 rfl ?_
        refine ev_iconst (v := nI 0) dL_errors_552 rfl ?_
        refine ev_rxW dL_errors_553 (w_simulate_1 hO.1 (c_X10_simulate_1 (by decide))) lk_L_146 ⟨Nat.le_of_ble_eq_true rfl, Nat.le_of_ble_eq_true rfl⟩ rfl (Nat.le_of_ble_eq_true rfl) ⟨by first | exact Nat.le_of_ble_eq_true rfl | omega, by first | exact Nat.le_of_ble_eq_true rfl | omega⟩ (fun n_553 => ?_)
        refine ev_ldc2 dL_errors_556 wq_L_17 ?_
        refine ev_lcS_ne (tgt := 605) dL_errors_559 dL_errors_560 (by decide) (by rfl) ?_
        refine ev_aload_n dL_errors_563 rfl rfl ?_
        refine ev_iconst (v := nI 2) dL_errors_564 rfl ?_
        refine ev_rxW dL_errors_565 (w_save_1 hO.1 (c_X10_save_1 (by decide))) lk_L_149 ⟨Nat.le_of_ble_eq_true rfl, Nat.le_of_ble_eq_true rfl⟩ rfl (Nat.le_of_ble_eq_true rfl) ⟨by first | exact Nat.le_of_ble_eq_true rfl | omega, by first | exact Nat.le_of_ble_eq_true rfl | omega⟩ (fun n_565 => ?_)
        refine ev_ldc2 dL_errors_568 wq_L_36 ?_
        refine ev_lcS_ne (tgt := 605) dL_errors_571 dL_errors_572 (by decide) (by rfl) ?_
        refine ev_aload_n dL_errors_575 rfl rfl ?_
        refine ev_iconst (v := nI 2) dL_errors_576 rfl ?_
        refine ev_rxW dL_errors_577 (w_restore_1 hO.1 (c_X10_restore_1 (by decide))) lk_L_151 ⟨Nat.le_of_ble_eq_true rfl, Nat.le_of_ble_eq_true rfl⟩ rfl (Nat.le_of_ble_eq_true rfl) ⟨by first | exact Nat.le_of_ble_eq_true rfl | omega, by first | exact Nat.le_of_ble_eq_true rfl | omega⟩ (fun n_577 => ?_)
        refine ev_ldc2 dL_errors_580 wq_L_36 ?_
        refine ev_lcS_ne (tgt := 605) dL_errors_583 dL_errors_584 (by decide) (by rfl) ?_
        refine ev_aload_n dL_errors_587 rfl rfl ?_
        refine ev_sipush (v := nI 256) dL_errors_588 rfl ?_
        refine ev_rxW dL_errors_591 (w_append_1 hO.1 (c_X10_append_n (by decide))) lk_L_153 ⟨Nat.le_of_ble_eq_true rfl, Nat.le_of_ble_eq_true rfl⟩ rfl (Nat.le_of_ble_eq_true rfl) ⟨by first | exact Nat.le_of_ble_eq_true rfl | omega, by first | exact Nat.le_of_ble_eq_true rfl | omega⟩ (fun n_591 => ?_)
        refine ev_ldc2 dL_errors_594 wq_L_17 ?_
        refine ev_lcS_ne (tgt := 605) dL_errors_597 dL_errors_598 (by decide) (by rfl) ?_
        refine ev_iconst (v := nI 1) dL_errors_601 rfl ?_
        refine ev_goto (tgt := 606) dL_errors_602 (by decide) ?_
        refine ev_istore dL_errors_606 (Nat.le_of_ble_eq_true rfl) ?_
        refine ev_iload dL_errors_608 rfl ?_
        refine ev_if_eqN (tgt := 626) dL_errors_610 (by decide) (by decide) (fun c => absurd c (by decide)) (fun _ => ?_)
        refine ev_aload_n dL_errors_613 rfl rfl ?_
        refine ev_roN dL_errors_614 (c_L_now hO hI hT) lk_L_110 ⟨Nat.le_of_ble_eq_true rfl, Nat.le_of_ble_eq_true rfl⟩ rfl (Nat.le_of_ble_eq_true rfl) ⟨by first | exact Nat.le_of_ble_eq_true rfl | omega, by first | exact Nat.le_of_ble_eq_true rfl | omega⟩ (fun n_614 => ?_)
        refine ev_lload_n dL_errors_617 rfl rfl ?_
        refine ev_lcS_ne (tgt := 626) dL_errors_618 dL_errors_619 (by decide) (by rfl) ?_
        refine ev_iconst (v := nI 1) dL_errors_622 rfl ?_
        refine ev_goto (tgt := 627) dL_errors_623 (by decide) ?_
        exact ev_iret dL_errors_627 rfl (by first | rfl | exact bI_n _) (by rfl) (by rfl) (fun _ e => nomatch e) (by first | exact Nat.le_of_ble_eq_true rfl | omega) (by first | exact Nat.le_of_ble_eq_true rfl | omega)
      · refine ev_aload_n dL_errors_508 rfl rfl ?_
        refine ev_iconst (v := nI 0) dL_errors_509 rfl ?_
        refine ev_iconst (v := nI 0) dL_errors_510 rfl ?_
        refine ev_iconst (v := nI 0) dL_errors_511 rfl ?_
        refine ev_rxW dL_errors_512 (w_person_3 hO.1 (c_X10_person_4 (a := 0) (f := 0) (d := 0) hO hB (by decide) (by decide) (by decide) (by omega))) lk_L_121 ⟨Nat.le_of_ble_eq_true rfl, Nat.le_of_ble_eq_true rfl⟩ rfl (Nat.le_of_ble_eq_true rfl) ⟨by first | exact Nat.le_of_ble_eq_true rfl | omega, by first | exact Nat.le_of_ble_eq_true rfl | omega⟩ (fun n_512 => ?_)
        refine ev_ldc2 dL_errors_515 wq_L_21 ?_
        refine ev_lcS_ne (tgt := 605) dL_errors_518 dL_errors_519 (by decide) (by rfl) ?_
        refine ev_aload_n dL_errors_522 rfl rfl ?_
        refine ev_iconst (v := nI 0) dL_errors_523 rfl ?_
        refine ev_lconst (v := lN 0) dL_errors_524 rfl ?_
        refine ev_rxW dL_errors_525 (w_script_1 hO.1 (c_X10_runScript_1 (by decide))) lk_L_140 ⟨Nat.le_of_ble_eq_true rfl, Nat.le_of_ble_eq_true rfl⟩ rfl (Nat.le_of_ble_eq_true rfl) ⟨by first | exact Nat.le_of_ble_eq_true rfl | omega, by first | exact Nat.le_of_ble_eq_true rfl | omega⟩ (fun n_525 => ?_)
        refine ev_ldc2 dL_errors_528 wq_L_17 ?_
        refine ev_lcS_ne (tgt := 605) dL_errors_531 dL_errors_532 (by decide) (by rfl) ?_
        refine ev_aload_n dL_errors_535 rfl rfl ?_
        refine ev_iconst (v := nI 3) dL_errors_536 rfl ?_
        refine ev_ldc2 (v := lN 1000000000000000000) dL_errors_537 wq_L_144 ?_
        refine ev_rxW dL_errors_540 (w_script_1 hO.1 (c_X10_runScript_2 (m := 3) (by decide) (fun z => by
            have q := z.2
            rw [pk_lT (by decide)] at q
            exact absurd q (by decide)))) lk_L_140 ⟨Nat.le_of_ble_eq_true rfl, Nat.le_of_ble_eq_true rfl⟩ rfl (Nat.le_of_ble_eq_true rfl) ⟨by first | exact Nat.le_of_ble_eq_true rfl | omega, by first | exact Nat.le_of_ble_eq_true rfl | omega⟩ (fun n_540 => ?_)
        refine ev_ldc2 dL_errors_543 wq_L_17 ?_
        refine ev_lcS_ne (tgt := 605) dL_errors_546 dL_errors_547 (by decide) (by rfl) ?_
        refine ev_aload_n dL_errors_550 rfl rfl ?_
        refine ev_lconst (v := lN 1) dL_errors_551 rfl ?_
        refine ev_iconst (v := nI 0) dL_errors_552 rfl ?_
        refine ev_rxW dL_errors_553 (w_simulate_1 hO.1 (c_X10_simulate_1 (by decide))) lk_L_146 ⟨Nat.le_of_ble_eq_true rfl, Nat.le_of_ble_eq_true rfl⟩ rfl (Nat.le_of_ble_eq_true rfl) ⟨by first | exact Nat.le_of_ble_eq_true rfl | omega, by first | exact Nat.le_of_ble_eq_true rfl | omega⟩ (fun n_553 => ?_)
        refine ev_ldc2 dL_errors_556 wq_L_17 ?_
        refine ev_lcS_ne (tgt := 605) dL_errors_559 dL_errors_560 (by decide) (by rfl) ?_
        refine ev_aload_n dL_errors_563 rfl rfl ?_
        refine ev_iconst (v := nI 2) dL_errors_564 rfl ?_
        refine ev_rxW dL_errors_565 (w_save_1 hO.1 (c_X10_save_1 (by decide))) lk_L_149 ⟨Nat.le_of_ble_eq_true rfl, Nat.le_of_ble_eq_true rfl⟩ rfl (Nat.le_of_ble_eq_true rfl) ⟨by first | exact Nat.le_of_ble_eq_true rfl | omega, by first | exact Nat.le_of_ble_eq_true rfl | omega⟩ (fun n_565 => ?_)
        refine ev_ldc2 dL_errors_568 wq_L_36 ?_
        refine ev_lcS_ne (tgt := 605) dL_errors_571 dL_errors_572 (by decide) (by rfl) ?_
        refine ev_aload_n dL_errors_575 rfl rfl ?_
        refine ev_iconst (v := nI 2) dL_errors_576 rfl ?_
        refine ev_rxW dL_errors_577 (w_restore_1 hO.1 (c_X10_restore_1 (by decide))) lk_L_151 ⟨Nat.le_of_ble_eq_true rfl, Nat.le_of_ble_eq_true rfl⟩ rfl (Nat.le_of_ble_eq_true rfl) ⟨by first | exact Nat.le_of_ble_eq_true rfl | omega, by first | exact Nat.le_of_ble_eq_true rfl | omega⟩ (fun n_577 => ?_)
        refine ev_ldc2 dL_errors_580 wq_L_36 ?_
        refine ev_lcS_ne (tgt := 605) dL_errors_583 dL_errors_584 (by decide) (by rfl) ?_
        refine ev_aload_n dL_errors_587 rfl rfl ?_
        refine ev_sipush (v := nI 256) dL_errors_588 rfl ?_
        refine ev_rxW dL_errors_591 (w_append_1 hO.1 (c_X10_append_n (by decide))) lk_L_153 ⟨Nat.le_of_ble_eq_true rfl, Nat.le_of_ble_eq_true rfl⟩ rfl (Nat.le_of_ble_eq_true rfl) ⟨by first | exact Nat.le_of_ble_eq_true rfl | omega, by first | exact Nat.le_of_ble_eq_true rfl | omega⟩ (fun n_591 => ?_)
        refine ev_ldc2 dL_errors_594 wq_L_17 ?_
        refine ev_lcS_ne (tgt := 605) dL_errors_597 dL_errors_598 (by decide) (by rfl) ?_
        refine ev_iconst (v := nI 1) dL_errors_601 rfl ?_
        refine ev_goto (tgt := 606) dL_errors_602 (by decide) ?_
        refine ev_istore dL_errors_606 (Nat.le_of_ble_eq_true rfl) ?_
        refine ev_iload dL_errors_608 rfl ?_
        refine ev_if_eqN (tgt := 626) dL_errors_610 (by decide) (by decide) (fun c => absurd c (by decide)) (fun _ => ?_)
        refine ev_aload_n dL_errors_613 rfl rfl ?_
        refine ev_roN dL_errors_614 (c_L_now hO hI hT) lk_L_110 ⟨Nat.le_of_ble_eq_true rfl, Nat.le_of_ble_eq_true rfl⟩ rfl (Nat.le_of_ble_eq_true rfl) ⟨by first | exact Nat.le_of_ble_eq_true rfl | omega, by first | exact Nat.le_of_ble_eq_true rfl | omega⟩ (fun n_614 => ?_)
        refine ev_lload_n dL_errors_617 rfl rfl ?_
        refine ev_lcS_ne (tgt := 626) dL_errors_618 dL_errors_619 (by decide) (by rfl) ?_
        refine ev_iconst (v := nI 1) dL_errors_622 rfl ?_
        refine ev_goto (tgt := 627) dL_errors_623 (by decide) ?_
        exact ev_iret dL_errors_627 rfl (by first | rfl | exact bI_n _) (by rfl) (by rfl) (fun _ e => nomatch e) (by first | exact Nat.le_of_ble_eq_true rfl | omega) (by first | exact Nat.le_of_ble_eq_true rfl | omega)
    · refine ev_aload_n dL_errors_475 rfl rfl ?_
      refine ev_iconst (v := nI 0) dL_errors_476 rfl ?_
      refine ev_bipush (v := nI 8) dL_errors_477 rfl ?_
      refine ev_rxW dL_errors_479 (w_nameOf_2 hO.1 (c_X10_nameOf_2 (p := 0) hO hB (by omega) (by decide))) lk_L_108 ⟨Nat.le_of_ble_eq_true rfl, Nat.le_of_ble_eq_true rfl⟩ rfl (Nat.le_of_ble_eq_true rfl) ⟨by first | exact Nat.le_of_ble_eq_true rfl | omega, by first | exact Nat.le_of_ble_eq_true rfl | omega⟩ (fun n_479 => ?_)
      refine ev_ldc2 dL_errors_482 wq_L_17 ?_
      refine ev_lcS_ne (tgt := 605) dL_errors_485 dL_errors_486 (by decide) (by rfl) ?_
      refine ev_aload_n dL_errors_489 rfl rfl ?_
      refine ev_iconst (v := nI 0) dL_errors_490 rfl ?_
      refine ev_iconst (v := -1) dL_errors_491 (by decide) ?_
      refine ev_rxW dL_errors_492 (w_letter_1 hO.1 (c_X10_letter_2 (k := 0) hO hB (by omega) (by decide))) lk_L_114 ⟨Nat.le_of_ble_eq_true rfl, Nat.le_of_ble_eq_true rfl⟩ rfl (Nat.le_of_ble_eq_true rfl) ⟨by first | exact Nat.le_of_ble_eq_true rfl | omega, by first | exact Nat.le_of_ble_eq_true rfl | omega⟩ (fun n_492 => ?_)
      refine ev_ldc2 dL_errors_495 wq_L_36 ?_
      refine ev_lcS_ne (tgt := 605) dL_errors_498 dL_errors_499 (by decide) (by rfl) ?_
      refine ev_iload_n dL_errors_502 rfl rfl ?_
      refine ev_bipush (v := nI 12) dL_errors_503 rfl ?_
      refine ev_icmp_ltN (tgt := 522) dL_errors_505 (by decide) (by omega) (by omega) (fun c_505 => ?_) (fun c_505 => ?_)
      · refine ev_aload_n dL_errors_522 rfl rfl ?_
        refine ev_iconst (v := nI 0) dL_errors_523 rfl ?_
        refine ev_lconst (v := lN 0) dL_errors_524 rfl ?_
        refine ev_rxW dL_errors_525 (w_script_1 hO.1 (c_X10_runScript_1 (by decide))) lk_L_140 ⟨Nat.le_of_ble_eq_true rfl, Nat.le_of_ble_eq_true rfl⟩ rfl (Nat.le_of_ble_eq_true rfl) ⟨by first | exact Nat.le_of_ble_eq_true rfl | omega, by first | exact Nat.le_of_ble_eq_true rfl | omega⟩ (fun n_525 => ?_)
        refine ev_ldc2 dL_errors_528 wq_L_17 ?_
        refine ev_lcS_ne (tgt := 605) dL_errors_531 dL_errors_532 (by decide) (by rfl) ?_
        refine ev_aload_n dL_errors_535 rfl rfl ?_
        refine ev_iconst (v := nI 3) dL_errors_536 rfl ?_
        refine ev_ldc2 (v := lN 1000000000000000000) dL_errors_537 wq_L_144 ?_
        refine ev_rxW dL_errors_540 (w_script_1 hO.1 (c_X10_runScript_2 (m := 3) (by decide) (fun z => by
            have q := z.2
            rw [pk_lT (by decide)] at q
            exact absurd q (by decide)))) lk_L_140 ⟨Nat.le_of_ble_eq_true rfl, Nat.le_of_ble_eq_true rfl⟩ rfl (Nat.le_of_ble_eq_true rfl) ⟨by first | exact Nat.le_of_ble_eq_true rfl | omega, by first | exact Nat.le_of_ble_eq_true rfl | omega⟩ (fun n_540 => ?_)
        refine ev_ldc2 dL_errors_543 wq_L_17 ?_
        refine ev_lcS_ne (tgt := 605) dL_errors_546 dL_errors_547 (by decide) (by rfl) ?_
        refine ev_aload_n dL_errors_550 rfl rfl ?_
        refine ev_lconst (v := lN 1) dL_errors_551 rfl ?_
        refine ev_iconst (v := nI 0) dL_errors_552 rfl ?_
        refine ev_rxW dL_errors_553 (w_simulate_1 hO.1 (c_X10_simulate_1 (by decide))) lk_L_146 ⟨Nat.le_of_ble_eq_true rfl, Nat.le_of_ble_eq_true rfl⟩ rfl (Nat.le_of_ble_eq_true rfl) ⟨by first | exact Nat.le_of_ble_eq_true rfl | omega, by first | exact Nat.le_of_ble_eq_true rfl | omega⟩ (fun n_553 => ?_)
        refine ev_ldc2 dL_errors_556 wq_L_17 ?_
        refine ev_lcS_ne (tgt := 605) dL_errors_559 dL_errors_560 (by decide) (by rfl) ?_
        refine ev_aload_n dL_errors_563 rfl rfl ?_
        refine ev_iconst (v := nI 2) dL_errors_564 rfl ?_
        refine ev_rxW dL_errors_565 (w_save_1 hO.1 (c_X10_save_1 (by decide))) lk_L_149 ⟨Nat.le_of_ble_eq_true rfl, Nat.le_of_ble_eq_true rfl⟩ rfl (Nat.le_of_ble_eq_true rfl) ⟨by first | exact Nat.le_of_ble_eq_true rfl | omega, by first | exact Nat.le_of_ble_eq_true rfl | omega⟩ (fun n_565 => ?_)
        refine ev_ldc2 dL_errors_568 wq_L_36 ?_
        refine ev_lcS_ne (tgt := 605) dL_errors_571 dL_errors_572 (by decide) (by rfl) ?_
        refine ev_aload_n dL_errors_575 rfl rfl ?_
        refine ev_iconst (v := nI 2) dL_errors_576 rfl ?_
        refine ev_rxW dL_errors_577 (w_restore_1 hO.1 (c_X10_restore_1 (by decide))) lk_L_151 ⟨Nat.le_of_ble_eq_true rfl, Nat.le_of_ble_eq_true rfl⟩ rfl (Nat.le_of_ble_eq_true rfl) ⟨by first | exact Nat.le_of_ble_eq_true rfl | omega, by first | exact Nat.le_of_ble_eq_true rfl | omega⟩ (fun n_577 => ?_)
        refine ev_ldc2 dL_errors_580 wq_L_36 ?_
        refine ev_lcS_ne (tgt := 605) dL_errors_583 dL_errors_584 (by decide) (by rfl) ?_
        refine ev_aload_n dL_errors_587 rfl rfl ?_
        refine ev_sipush (v := nI 256) dL_errors_588 rfl ?_
        refine ev_rxW dL_errors_591 (w_append_1 hO.1 (c_X10_append_n (by decide))) lk_L_153 ⟨Nat.le_of_ble_eq_true rfl, Nat.le_of_ble_eq_true rfl⟩ rfl (Nat.le_of_ble_eq_true rfl) ⟨by first | exact Nat.le_of_ble_eq_true rfl | omega, by first | exact Nat.le_of_ble_eq_true rfl | omega⟩ (fun n_591 => ?_)
        refine ev_ldc2 dL_errors_594 wq_L_17 ?_
        refine ev_lcS_ne (tgt := 605) dL_errors_597 dL_errors_598 (by decide) (by rfl) ?_
        refine ev_iconst (v := nI 1) dL_errors_601 rfl ?_
        refine ev_goto (tgt := 606) dL_errors_602 (by decide) ?_
        refine ev_istore dL_errors_606 (Nat.le_of_ble_eq_true rfl) ?_
        refine ev_iload dL_errors_608 rfl ?_
        refine ev_if_eqN (tgt := 626) dL_errors_610 (by decide) (by decide) (fun c => absurd c (by decide)) (fun _ => ?_)
        refine ev_aload_n dL_errors_613 rfl rfl ?_
        refine ev_roN dL_errors_614 (c_L_now hO hI hT) lk_L_110 ⟨Nat.le_of_ble_eq_true rfl, Nat.le_of_ble_eq_true rfl⟩ rfl (Nat.le_of_ble_eq_true rfl) ⟨by first | exact Nat.le_of_ble_eq_true rfl | omega, by first | exact Nat.le_of_ble_eq_true rfl | omega⟩ (fun n_614 => ?_)
        refine ev_lload_n dL_errors_617 rfl rfl ?_
        refine ev_lcS_ne (tgt := 626) dL_errors_618 dL_errors_619 (by decide) (by rfl) ?_
        refine ev_iconst (v := nI 1) dL_errors_622 rfl ?_
        refine ev_goto (tgt := 627) dL_errors_623 (by decide) ?_
        exact ev_iret dL_errors_627 rfl (by first | rfl | exact bI_n _) (by rfl) (by rfl) (fun _ e => nomatch e) (by first | exact Nat.le_of_ble_eq_true rfl | omega) (by first | exact Nat.le_of_ble_eq_true rfl | omega)
      · refine ev_aload_n dL_errors_508 rfl rfl ?_
        refine ev_iconst (v := nI 0) dL_errors_509 rfl ?_
        refine ev_iconst (v := nI 0) dL_errors_510 rfl ?_
        refine ev_iconst (v := nI 0) dL_errors_511 rfl ?_
        refine ev_rxW dL_errors_512 (w_person_3 hO.1 (c_X10_person_4 (a := 0) (f := 0) (d := 0) hO hB (by decide) (by decide) (by decide) (by omega))) lk_L_121 ⟨Nat.le_of_ble_eq_true rfl, Nat.le_of_ble_eq_true rfl⟩ rfl (Nat.le_of_ble_eq_true rfl) ⟨by first | exact Nat.le_of_ble_eq_true rfl | omega, by first | exact Nat.le_of_ble_eq_true rfl | omega⟩ (fun n_512 => ?_)
        refine ev_ldc2 dL_errors_515 wq_L_21 ?_
        refine ev_lcS_ne (tgt := 605) dL_errors_518 dL_errors_519 (by decide) (by rfl) ?_
        refine ev_aload_n dL_errors_522 rfl rfl ?_
        refine ev_iconst (v := nI 0) dL_errors_523 rfl ?_
        refine ev_lconst (v := lN 0) dL_errors_524 rfl ?_
        refine ev_rxW dL_errors_525 (w_script_1 hO.1 (c_X10_runScript_1 (by decide))) lk_L_140 ⟨Nat.le_of_ble_eq_true rfl, Nat.le_of_ble_eq_true rfl⟩ rfl (Nat.le_of_ble_eq_true rfl) ⟨by first | exact Nat.le_of_ble_eq_true rfl | omega, by first | exact Nat.le_of_ble_eq_true rfl | omega⟩ (fun n_525 => ?_)
        refine ev_ldc2 dL_errors_528 wq_L_17 ?_
        refine ev_lcS_ne (tgt := 605) dL_errors_531 dL_errors_532 (by decide) (by rfl) ?_
        refine ev_aload_n dL_errors_535 rfl rfl ?_
        refine ev_iconst (v := nI 3) dL_errors_536 rfl ?_
        refine ev_ldc2 (v := lN 1000000000000000000) dL_errors_537 wq_L_144 ?_
        refine ev_rxW dL_errors_540 (w_script_1 hO.1 (c_X10_runScript_2 (m := 3) (by decide) (fun z => by
            have q := z.2
            rw [pk_lT (by decide)] at q
            exact absurd q (by decide)))) lk_L_140 ⟨Nat.le_of_ble_eq_true rfl, Nat.le_of_ble_eq_true rfl⟩ rfl (Nat.le_of_ble_eq_true rfl) ⟨by first | exact Nat.le_of_ble_eq_true rfl | omega, by first | exact Nat.le_of_ble_eq_true rfl | omega⟩ (fun n_540 => ?_)
        refine ev_ldc2 dL_errors_543 wq_L_17 ?_
        refine ev_lcS_ne (tgt := 605) dL_errors_546 dL_errors_547 (by decide) (by rfl) ?_
        refine ev_aload_n dL_errors_550 rfl rfl ?_
        refine ev_lconst (v := lN 1) dL_errors_551 rfl ?_
        refine ev_iconst (v := nI 0) dL_errors_552 rfl ?_
        refine ev_rxW dL_errors_553 (w_simulate_1 hO.1 (c_X10_simulate_1 (by decide))) lk_L_146 ⟨Nat.le_of_ble_eq_true rfl, Nat.le_of_ble_eq_true rfl⟩ rfl (Nat.le_of_ble_eq_true rfl) ⟨by first | exact Nat.le_of_ble_eq_true rfl | omega, by first | exact Nat.le_of_ble_eq_true rfl | omega⟩ (fun n_553 => ?_)
        refine ev_ldc2 dL_errors_556 wq_L_17 ?_
        refine ev_lcS_ne (tgt := 605) dL_errors_559 dL_errors_560 (by decide) (by rfl) ?_
        refine ev_aload_n dL_errors_563 rfl rfl ?_
        refine ev_iconst (v := nI 2) dL_errors_564 rfl ?_
        refine ev_rxW dL_errors_565 (w_save_1 hO.1 (c_X10_save_1 (by decide))) lk_L_149 ⟨Nat.le_of_ble_eq_true rfl, Nat.le_of_ble_eq_true rfl⟩ rfl (Nat.le_of_ble_eq_true rfl) ⟨by first | exact Nat.le_of_ble_eq_true rfl | omega, by first | exact Nat.le_of_ble_eq_true rfl | omega⟩ (fun n_565 => ?_)
        refine ev_ldc2 dL_errors_568 wq_L_36 ?_
        refine ev_lcS_ne (tgt := 605) dL_errors_571 dL_errors_572 (by decide) (by rfl) ?_
        refine ev_aload_n dL_errors_575 rfl rfl ?_
        refine ev_iconst (v := nI 2) dL_errors_576 rfl ?_
        refine ev_rxW dL_errors_577 (w_restore_1 hO.1 (c_X10_restore_1 (by decide))) lk_L_151 ⟨Nat.le_of_ble_eq_true rfl, Nat.le_of_ble_eq_true rfl⟩ rfl (Nat.le_of_ble_eq_true rfl) ⟨by first | exact Nat.le_of_ble_eq_true rfl | omega, by first | exact Nat.le_of_ble_eq_true rfl | omega⟩ (fun n_577 => ?_)
        refine ev_ldc2 dL_errors_580 wq_L_36 ?_
        refine ev_lcS_ne (tgt := 605) dL_errors_583 dL_errors_584 (by decide) (by rfl) ?_
        refine ev_aload_n dL_errors_587 rfl rfl ?_
        refine ev_sipush (v := nI 256) dL_errors_588 rfl ?_
        refine ev_rxW dL_errors_591 (w_append_1 hO.1 (c_X10_append_n (by decide))) lk_L_153 ⟨Nat.le_of_ble_eq_true rfl, Nat.le_of_ble_eq_true rfl⟩ rfl (Nat.le_of_ble_eq_true rfl) ⟨by first | exact Nat.le_of_ble_eq_true rfl | omega, by first | exact Nat.le_of_ble_eq_true rfl | omega⟩ (fun n_591 => ?_)
        refine ev_ldc2 dL_errors_594 wq_L_17 ?_
        refine ev_lcS_ne (tgt := 605) dL_errors_597 dL_errors_598 (by decide) (by rfl) ?_
        refine ev_iconst (v := nI 1) dL_errors_601 rfl ?_
        refine ev_goto (tgt := 606) dL_errors_602 (by decide) ?_
        refine ev_istore dL_errors_606 (Nat.le_of_ble_eq_true rfl) ?_
        refine ev_iload dL_errors_608 rfl ?_
        refine ev_if_eqN (tgt := 626) dL_errors_610 (by decide) (by decide) (fun c => absurd c (by decide)) (fun _ => ?_)
        refine ev_aload_n dL_errors_613 rfl rfl ?_
        refine ev_roN dL_errors_614 (c_L_now hO hI hT) lk_L_110 ⟨Nat.le_of_ble_eq_true rfl, Nat.le_of_ble_eq_true rfl⟩ rfl (Nat.le_of_ble_eq_true rfl) ⟨by first | exact Nat.le_of_ble_eq_true rfl | omega, by first | exact Nat.le_of_ble_eq_true rfl | omega⟩ (fun n_614 => ?_)
        refine ev_lload_n dL_errors_617 rfl rfl ?_
        refine ev_lcS_ne (tgt := 626) dL_errors_618 dL_errors_619 (by decide) (by rfl) ?_
        refine ev_iconst (v := nI 1) dL_errors_622 rfl ?_
        refine ev_goto (tgt := 627) dL_errors_623 (by decide) ?_
        exact ev_iret dL_errors_627 rfl (by first | rfl | exact bI_n _) (by rfl) (by rfl) (fun _ e => nomatch e) (by first | exact Nat.le_of_ble_eq_true rfl | omega) (by first | exact Nat.le_of_ble_eq_true rfl | omega)
