set_option maxHeartbeats 4000000 in
set_option maxRecDepth 20000 in
theorem kept_39_0 {h : eH} {b ℓ c T : Nat} {σ : St} {x : Nat → Nat} {τ τs : Nat → St} {us : Nat → Nat} (hO : eNB h b σ x ℓ c τ us τs) (hI : gI σ T) (hT : T < 2 ^ 20) {k : Nat} (hk : k < σ 0 1) (hs : σ 12 k = 0) (K : ∀ n_0 : Nat, eV mL_kept 29 [(0, .ref b), (1, .int (nI (σ 0 1))), (2, .int (nI (1))), (3, .long (lN (sSum (σ 10) (k + 1)))), (5, .long (lN (0))), (7, .long (lN (0))), (9, .long (lN (0))), (11, .long (lN (sSum (σ 13) (k + 1)))), (13, .int (nI (cnt (sAlive σ) k + 1))), (14, .int (nI (k + 1)))] [] (h, n_0, 0, 0) (.inl (some (.int (nI 1))), (· = h), none) 0 0) : ∀ n_0 : Nat, eV mL_kept 39 [(0, .ref b), (1, .int (nI (σ 0 1))), (2, .int (nI (1))), (3, .long (lN (sSum (σ 10) k))), (5, .long (lN (0))), (7, .long (lN (0))), (9, .long (lN (0))), (11, .long (lN (sSum (σ 13) k))), (13, .int (nI (cnt (sAlive σ) k))), (14, .int (nI (k)))] [] (h, n_0, 0, 0) (.inl (some (.int (nI 1))), (· = h), none) 0 0 := by
  have hK := hI.ok hT
  have hB := hK.1
  have hP := hK.2.1
  have hN := hK.2.2.1
  have hA := sAl_b hI hT
  intro n_0
  have hW := hI.1.ho k hk
  obtain ⟨hne, h1, h2⟩ := hI.2.2.1 k hk
  have hl := (hI.1.2.2.2.1 k).2.2.2.2.2.1
  have hm1 := (hI.1.2.2.2.2.1 k hk).2.2.1
  have hm4 := (hI.1.2.2.2.1 k).1
  have hc7 := (hI.1.2.2.2.2.1 k hk).2.2.2
  have hmc : sCode (σ 6 k) (σ 7 k) = true := decide_eq_true ⟨hm1, hm4, hc7⟩
  have hb1 := sLet_lt (σ 6 k) (σ 7 k) 0
  have hL9 := sLeft_b hI hk
  have ha : sAlive σ k = true := decide_eq_true (by omega)
  have hL : sLeft σ k ≠ 0 := fun z => by rw [sLeft_0.mp z] at ha; cases ha
  have h13 := h2 hs
  refine ev_aload_n (i := 0) dL_kept_39 rfl (by repeat (first | with_reducible exact lk_h | ((with_reducible refine lk_e ?_); rfl) | refine lk_m ?_ rfl)) ?_
  refine ev_iload (i := 14) dL_kept_40 (by repeat (first | with_reducible exact lk_h | ((with_reducible refine lk_e ?_); rfl) | refine lk_m ?_ rfl)) ?_
  refine ev_bipush (v := nI 6) dL_kept_42 rfl ?_
  refine ev_roW dL_kept_44 (a_nameOf (p := k) (w := 6) (v := 0) hO hI hT hk (by decide) (hs)) lk_L_108 ⟨Nat.le_of_ble_eq_true rfl, Nat.le_of_ble_eq_true rfl⟩ rfl (Nat.le_of_ble_eq_true rfl) ⟨by first | exact Nat.le_of_ble_eq_true rfl | omega, by first | exact Nat.le_of_ble_eq_true rfl | omega⟩ (fun n_44 => ?_)
  refine ev_ldc2 (v := lN 2) dL_kept_47 wq_L_155 ?_
  refine ev_lcN_ge (tgt := 58) dL_kept_50 dL_kept_51 (by decide) (by first | omega | exact Nat.lt_trans (hB _ _) (by decide) | exact hB _ _) (by first | omega | exact Nat.lt_trans (hB _ _) (by decide) | exact hB _ _) (fun c_50 => absurd c_50 (by omega)) (fun c_50 => ?_)
  refine ev_iconst (v := nI 1) dL_kept_54 rfl ?_
  refine ev_goto (tgt := 59) dL_kept_55 (by decide) ?_
  refine ev_istore (i := 15) dL_kept_59 (Nat.le_of_ble_eq_true rfl) ?_
  refine ev_aload_n (i := 0) dL_kept_61 rfl (by repeat (first | with_reducible exact lk_h | ((with_reducible refine lk_e ?_); rfl) | refine lk_m ?_ rfl)) ?_
  refine ev_iload (i := 14) dL_kept_62 (by repeat (first | with_reducible exact lk_h | ((with_reducible refine lk_e ?_); rfl) | refine lk_m ?_ rfl)) ?_
  refine ev_iconst (v := nI 3) dL_kept_64 rfl ?_
  refine ev_roW dL_kept_65 (a_nameOf (p := k) (w := 3) (v := σ 9 k) hO hI hT hk (by decide) (rfl)) lk_L_108 ⟨Nat.le_of_ble_eq_true rfl, Nat.le_of_ble_eq_true rfl⟩ rfl (Nat.le_of_ble_eq_true rfl) ⟨by first | exact Nat.le_of_ble_eq_true rfl | omega, by first | exact Nat.le_of_ble_eq_true rfl | omega⟩ (fun n_65 => ?_)
  refine ev_l2i dL_kept_68 (lN_i _) ?_
  refine ev_istore (i := 16) dL_kept_69 (Nat.le_of_ble_eq_true rfl) ?_
  refine ev_aload_n (i := 0) dL_kept_71 rfl (by repeat (first | with_reducible exact lk_h | ((with_reducible refine lk_e ?_); rfl) | refine lk_m ?_ rfl)) ?_
  refine ev_iload (i := 16) dL_kept_72 (by repeat (first | with_reducible exact lk_h | ((with_reducible refine lk_e ?_); rfl) | refine lk_m ?_ rfl)) ?_
  refine ev_iconst (v := nI 2) dL_kept_74 rfl ?_
  refine ev_roW dL_kept_75 (a_personOf (p := σ 9 k) (w := 2) (v := σ 3 (σ 9 k)) hO hI hT hW (by decide) (rfl)) lk_L_105 ⟨Nat.le_of_ble_eq_true rfl, Nat.le_of_ble_eq_true rfl⟩ rfl (Nat.le_of_ble_eq_true rfl) ⟨by first | exact Nat.le_of_ble_eq_true rfl | omega, by first | exact Nat.le_of_ble_eq_true rfl | omega⟩ (fun n_75 => ?_)
  refine ev_l2i dL_kept_78 (lN_i _) ?_
  refine ev_istore (i := 17) dL_kept_79 (Nat.le_of_ble_eq_true rfl) ?_
  refine ev_aload_n (i := 0) dL_kept_81 rfl (by repeat (first | with_reducible exact lk_h | ((with_reducible refine lk_e ?_); rfl) | refine lk_m ?_ rfl)) ?_
  refine ev_iload (i := 14) dL_kept_82 (by repeat (first | with_reducible exact lk_h | ((with_reducible refine lk_e ?_); rfl) | refine lk_m ?_ rfl)) ?_
  refine ev_iconst (v := nI 2) dL_kept_84 rfl ?_
  refine ev_roW dL_kept_85 (a_nameOf (p := k) (w := 2) (v := σ 8 k) hO hI hT hk (by decide) (rfl)) lk_L_108 ⟨Nat.le_of_ble_eq_true rfl, Nat.le_of_ble_eq_true rfl⟩ rfl (Nat.le_of_ble_eq_true rfl) ⟨by first | exact Nat.le_of_ble_eq_true rfl | omega, by first | exact Nat.le_of_ble_eq_true rfl | omega⟩ (fun n_85 => ?_)
  refine ev_iload (i := 16) dL_kept_88 (by repeat (first | with_reducible exact lk_h | ((with_reducible refine lk_e ?_); rfl) | refine lk_m ?_ rfl)) ?_
  refine ev_i2l dL_kept_90 (nI_l (by first | omega | exact Nat.lt_trans (hB _ _) (by decide) | exact hB _ _)) ?_
  refine ev_lcN_eq (tgt := 250) dL_kept_91 dL_kept_92 (by decide) (by first | omega | exact Nat.lt_trans (hB _ _) (by decide) | exact hB _ _) (by first | omega | exact Nat.lt_trans (hB _ _) (by decide) | exact hB _ _) (fun c_91 => absurd c_91 (by exact hne)) (fun c_91 => ?_)
  refine ev_aload_n (i := 0) dL_kept_95 rfl (by repeat (first | with_reducible exact lk_h | ((with_reducible refine lk_e ?_); rfl) | refine lk_m ?_ rfl)) ?_
  refine ev_iload (i := 14) dL_kept_96 (by repeat (first | with_reducible exact lk_h | ((with_reducible refine lk_e ?_); rfl) | refine lk_m ?_ rfl)) ?_
  refine ev_iconst (v := nI 5) dL_kept_98 rfl ?_
  refine ev_roW dL_kept_99 (a_nameOf (p := k) (w := 5) (v := σ 11 k) hO hI hT hk (by decide) (rfl)) lk_L_108 ⟨Nat.le_of_ble_eq_true rfl, Nat.le_of_ble_eq_true rfl⟩ rfl (Nat.le_of_ble_eq_true rfl) ⟨by first | exact Nat.le_of_ble_eq_true rfl | omega, by first | exact Nat.le_of_ble_eq_true rfl | omega⟩ (fun n_99 => ?_)
  refine ev_aload_n (i := 0) dL_kept_102 rfl (by repeat (first | with_reducible exact lk_h | ((with_reducible refine lk_e ?_); rfl) | refine lk_m ?_ rfl)) ?_
  refine ev_bipush (v := nI 7) dL_kept_103 rfl ?_
  refine ev_roW dL_kept_105 (a_about (w := 7) (v := σ 0 2) hO hI hT (by first | decide | omega) (rfl)) lk_L_100 ⟨Nat.le_of_ble_eq_true rfl, Nat.le_of_ble_eq_true rfl⟩ rfl (Nat.le_of_ble_eq_true rfl) ⟨by first | exact Nat.le_of_ble_eq_true rfl | omega, by first | exact Nat.le_of_ble_eq_true rfl | omega⟩ (fun n_105 => ?_)
  refine ev_lcN_gt (tgt := 250) dL_kept_108 dL_kept_109 (by decide) (by first | omega | exact Nat.lt_trans (hB _ _) (by decide) | exact hB _ _) (by first | omega | exact Nat.lt_trans (hB _ _) (by decide) | exact hB _ _) (fun c_108 => absurd c_108 (by omega)) (fun c_108 => ?_)
  refine ev_aload_n (i := 0) dL_kept_112 rfl (by repeat (first | with_reducible exact lk_h | ((with_reducible refine lk_e ?_); rfl) | refine lk_m ?_ rfl)) ?_
  refine ev_iload (i := 14) dL_kept_113 (by repeat (first | with_reducible exact lk_h | ((with_reducible refine lk_e ?_); rfl) | refine lk_m ?_ rfl)) ?_
  refine ev_bipush (v := nI 6) dL_kept_115 rfl ?_
  refine ev_roW dL_kept_117 (a_nameOf (p := k) (w := 6) (v := 0) hO hI hT hk (by decide) (hs)) lk_L_108 ⟨Nat.le_of_ble_eq_true rfl, Nat.le_of_ble_eq_true rfl⟩ rfl (Nat.le_of_ble_eq_true rfl) ⟨by first | exact Nat.le_of_ble_eq_true rfl | omega, by first | exact Nat.le_of_ble_eq_true rfl | omega⟩ (fun n_117 => ?_)
  refine ev_lconst (v := lN 1) dL_kept_120 rfl ?_
  refine ev_lcN_eq (tgt := 140) dL_kept_121 dL_kept_122 (by decide) (by first | omega | exact Nat.lt_trans (hB _ _) (by decide) | exact hB _ _) (by first | omega | exact Nat.lt_trans (hB _ _) (by decide) | exact hB _ _) (fun c_121 => absurd c_121 (by omega)) (fun c_121 => ?_)
  refine ev_aload_n (i := 0) dL_kept_125 rfl (by repeat (first | with_reducible exact lk_h | ((with_reducible refine lk_e ?_); rfl) | refine lk_m ?_ rfl)) ?_
  refine ev_iload (i := 14) dL_kept_126 (by repeat (first | with_reducible exact lk_h | ((with_reducible refine lk_e ?_); rfl) | refine lk_m ?_ rfl)) ?_
  refine ev_bipush (v := nI 6) dL_kept_128 rfl ?_
  refine ev_roW dL_kept_130 (a_nameOf (p := k) (w := 6) (v := 0) hO hI hT hk (by decide) (hs)) lk_L_108 ⟨Nat.le_of_ble_eq_true rfl, Nat.le_of_ble_eq_true rfl⟩ rfl (Nat.le_of_ble_eq_true rfl) ⟨by first | exact Nat.le_of_ble_eq_true rfl | omega, by first | exact Nat.le_of_ble_eq_true rfl | omega⟩ (fun n_130 => ?_)
  refine ev_ldc2 (v := lN 4) dL_kept_133 wq_L_157 ?_
  refine ev_lcN_ne (tgt := 153) dL_kept_136 dL_kept_137 (by decide) (by first | omega | exact Nat.lt_trans (hB _ _) (by decide) | exact hB _ _) (by first | omega | exact Nat.lt_trans (hB _ _) (by decide) | exact hB _ _) (fun c_136 => ?_) (fun c_136 => absurd c_136 (by omega))
  refine ev_aload_n (i := 0) dL_kept_153 rfl (by repeat (first | with_reducible exact lk_h | ((with_reducible refine lk_e ?_); rfl) | refine lk_m ?_ rfl)) ?_
  refine ev_iload (i := 14) dL_kept_154 (by repeat (first | with_reducible exact lk_h | ((with_reducible refine lk_e ?_); rfl) | refine lk_m ?_ rfl)) ?_
  refine ev_bipush (v := nI 6) dL_kept_156 rfl ?_
  refine ev_roW dL_kept_158 (a_nameOf (p := k) (w := 6) (v := 0) hO hI hT hk (by decide) (hs)) lk_L_108 ⟨Nat.le_of_ble_eq_true rfl, Nat.le_of_ble_eq_true rfl⟩ rfl (Nat.le_of_ble_eq_true rfl) ⟨by first | exact Nat.le_of_ble_eq_true rfl | omega, by first | exact Nat.le_of_ble_eq_true rfl | omega⟩ (fun n_158 => ?_)
  refine ev_lconst (v := lN 0) dL_kept_161 rfl ?_
  refine ev_lcN_ne (tgt := 179) dL_kept_162 dL_kept_163 (by decide) (by first | omega | exact Nat.lt_trans (hB _ _) (by decide) | exact hB _ _) (by first | omega | exact Nat.lt_trans (hB _ _) (by decide) | exact hB _ _) (fun c_162 => absurd c_162 (by omega)) (fun c_162 => ?_)
  refine ev_aload_n (i := 0) dL_kept_166 rfl (by repeat (first | with_reducible exact lk_h | ((with_reducible refine lk_e ?_); rfl) | refine lk_m ?_ rfl)) ?_
  refine ev_iload (i := 14) dL_kept_167 (by repeat (first | with_reducible exact lk_h | ((with_reducible refine lk_e ?_); rfl) | refine lk_m ?_ rfl)) ?_
  refine ev_bipush (v := nI 7) dL_kept_169 rfl ?_
  refine ev_roW dL_kept_171 (a_nameOf (p := k) (w := 7) (v := 0) hO hI hT hk (by decide) (h13)) lk_L_108 ⟨Nat.le_of_ble_eq_true rfl, Nat.le_of_ble_eq_true rfl⟩ rfl (Nat.le_of_ble_eq_true rfl) ⟨by first | exact Nat.le_of_ble_eq_true rfl | omega, by first | exact Nat.le_of_ble_eq_true rfl | omega⟩ (fun n_171 => ?_)
  refine ev_lconst (v := lN 0) dL_kept_174 rfl ?_
  refine ev_lcS_ne (tgt := 250) dL_kept_175 dL_kept_176 (by decide) (by rfl) ?_
  refine ev_aload_n (i := 0) dL_kept_179 rfl (by repeat (first | with_reducible exact lk_h | ((with_reducible refine lk_e ?_); rfl) | refine lk_m ?_ rfl)) ?_
  refine ev_iload (i := 14) dL_kept_180 (by repeat (first | with_reducible exact lk_h | ((with_reducible refine lk_e ?_); rfl) | refine lk_m ?_ rfl)) ?_
  refine ev_roW dL_kept_182 (a_endsIn hO hI hT hk) lk_L_136 ⟨Nat.le_of_ble_eq_true rfl, Nat.le_of_ble_eq_true rfl⟩ rfl (Nat.le_of_ble_eq_true rfl) ⟨by first | exact Nat.le_of_ble_eq_true rfl | omega, by first | exact Nat.le_of_ble_eq_true rfl | omega⟩ (fun n_182 => ?_)
  refine ev_lconst (v := lN 0) dL_kept_185 rfl ?_
  refine ev_lcN_ne (tgt := 194) dL_kept_186 dL_kept_187 (by decide) (by first | omega | exact Nat.lt_trans (hB _ _) (by decide) | exact hB _ _) (by first | omega | exact Nat.lt_trans (hB _ _) (by decide) | exact hB _ _) (fun c_186 => ?_) (fun c_186 => absurd c_186 (by omega))
  refine ev_iconst (v := nI 0) dL_kept_194 rfl ?_
  refine ev_iload (i := 15) dL_kept_195 (by repeat (first | with_reducible exact lk_h | ((with_reducible refine lk_e ?_); rfl) | refine lk_m ?_ rfl)) ?_
  refine ev_if_neN (tgt := 204) dL_kept_197 (by decide) (by decide) (fun _ => ?_) (fun c => absurd c (by decide))
  refine ev_iconst (v := nI 0) dL_kept_204 rfl ?_
  refine ev_icS_ne (tgt := 250) dL_kept_205 (by decide) (by rfl) ?_
  refine ev_aload_n (i := 0) dL_kept_208 rfl (by repeat (first | with_reducible exact lk_h | ((with_reducible refine lk_e ?_); rfl) | refine lk_m ?_ rfl)) ?_
  refine ev_iload (i := 14) dL_kept_209 (by repeat (first | with_reducible exact lk_h | ((with_reducible refine lk_e ?_); rfl) | refine lk_m ?_ rfl)) ?_
  refine ev_aload_n (i := 0) dL_kept_211 rfl (by repeat (first | with_reducible exact lk_h | ((with_reducible refine lk_e ?_); rfl) | refine lk_m ?_ rfl)) ?_
  refine ev_iload (i := 14) dL_kept_212 (by repeat (first | with_reducible exact lk_h | ((with_reducible refine lk_e ?_); rfl) | refine lk_m ?_ rfl)) ?_
  refine ev_iconst (v := nI 0) dL_kept_214 rfl ?_
  refine ev_roW dL_kept_215 (a_nameOf (p := k) (w := 0) (v := σ 6 k) hO hI hT hk (by decide) (rfl)) lk_L_108 ⟨Nat.le_of_ble_eq_true rfl, Nat.le_of_ble_eq_true rfl⟩ rfl (Nat.le_of_ble_eq_true rfl) ⟨by first | exact Nat.le_of_ble_eq_true rfl | omega, by first | exact Nat.le_of_ble_eq_true rfl | omega⟩ (fun n_215 => ?_)
  refine ev_l2i dL_kept_218 (lN_i _) ?_
  refine ev_roW dL_kept_219 (a_letterN hO hI hT hk (by first | exact hB _ _ | omega) (if_neg (Nat.lt_irrefl _))) lk_L_114 ⟨Nat.le_of_ble_eq_true rfl, Nat.le_of_ble_eq_true rfl⟩ rfl (Nat.le_of_ble_eq_true rfl) ⟨by first | exact Nat.le_of_ble_eq_true rfl | omega, by first | exact Nat.le_of_ble_eq_true rfl | omega⟩ (fun n_219 => ?_)
  refine ev_ldc2 dL_kept_222 wq_L_159 ?_
  refine ev_lcS_ne (tgt := 250) dL_kept_225 dL_kept_226 (by decide) (by rfl) ?_
  refine ev_aload_n (i := 0) dL_kept_229 rfl (by repeat (first | with_reducible exact lk_h | ((with_reducible refine lk_e ?_); rfl) | refine lk_m ?_ rfl)) ?_
  refine ev_iload (i := 14) dL_kept_230 (by repeat (first | with_reducible exact lk_h | ((with_reducible refine lk_e ?_); rfl) | refine lk_m ?_ rfl)) ?_
  refine ev_iconst (v := nI 0) dL_kept_232 rfl ?_
  refine ev_roW dL_kept_233 (a_letterS hO hI hT hk (by decide) (if_pos (by omega))) lk_L_114 ⟨Nat.le_of_ble_eq_true rfl, Nat.le_of_ble_eq_true rfl⟩ rfl (Nat.le_of_ble_eq_true rfl) ⟨by first | exact Nat.le_of_ble_eq_true rfl | omega, by first | exact Nat.le_of_ble_eq_true rfl | omega⟩ (fun n_233 => ?_)
  refine ev_lconst (v := lN 0) dL_kept_236 rfl ?_
  refine ev_ldc2 (v := lN 25) dL_kept_237 wq_L_161 ?_
  refine ev_roN dL_kept_240 (c_L_in (lo := 0) (hi := 25) (by omega) (by omega) (by omega) (by omega)) lk_L_163 ⟨Nat.le_of_ble_eq_true rfl, Nat.le_of_ble_eq_true rfl⟩ rfl (Nat.le_of_ble_eq_true rfl) ⟨by first | exact Nat.le_of_ble_eq_true rfl | omega, by first | exact Nat.le_of_ble_eq_true rfl | omega⟩ (fun n_240 => ?_)
  refine ev_if_eqN (tgt := 250) dL_kept_243 (by decide) (by decide) (fun c => absurd c (by decide)) (fun _ => ?_)
  refine ev_iconst (v := nI 1) dL_kept_246 rfl ?_
  refine ev_goto (tgt := 251) dL_kept_247 (by decide) ?_
  refine ev_istore_n (i := 2) dL_kept_251 rfl (Nat.le_of_ble_eq_true rfl) ?_
  refine ev_iload_n (i := 2) dL_kept_252 rfl (by repeat (first | with_reducible exact lk_h | ((with_reducible refine lk_e ?_); rfl) | refine lk_m ?_ rfl)) ?_
  refine ev_if_eqN (tgt := 295) dL_kept_253 (by decide) (by decide) (fun c => absurd c (by decide)) (fun _ => ?_)
  refine ev_iload (i := 15) dL_kept_256 (by repeat (first | with_reducible exact lk_h | ((with_reducible refine lk_e ?_); rfl) | refine lk_m ?_ rfl)) ?_
  refine ev_if_eqN (tgt := 291) dL_kept_258 (by decide) (by decide) (fun c => absurd c (by decide)) (fun _ => ?_)
  refine ev_aload_n (i := 0) dL_kept_261 rfl (by repeat (first | with_reducible exact lk_h | ((with_reducible refine lk_e ?_); rfl) | refine lk_m ?_ rfl)) ?_
  refine ev_iload (i := 17) dL_kept_262 (by repeat (first | with_reducible exact lk_h | ((with_reducible refine lk_e ?_); rfl) | refine lk_m ?_ rfl)) ?_
  refine ev_aload_n (i := 0) dL_kept_264 rfl (by repeat (first | with_reducible exact lk_h | ((with_reducible refine lk_e ?_); rfl) | refine lk_m ?_ rfl)) ?_
  refine ev_iload (i := 14) dL_kept_265 (by repeat (first | with_reducible exact lk_h | ((with_reducible refine lk_e ?_); rfl) | refine lk_m ?_ rfl)) ?_
  refine ev_iconst (v := nI 0) dL_kept_267 rfl ?_
  refine ev_roW dL_kept_268 (a_nameOf (p := k) (w := 0) (v := σ 6 k) hO hI hT hk (by decide) (rfl)) lk_L_108 ⟨Nat.le_of_ble_eq_true rfl, Nat.le_of_ble_eq_true rfl⟩ rfl (Nat.le_of_ble_eq_true rfl) ⟨by first | exact Nat.le_of_ble_eq_true rfl | omega, by first | exact Nat.le_of_ble_eq_true rfl | omega⟩ (fun n_268 => ?_)
  refine ev_l2i dL_kept_271 (lN_i _) ?_
  refine ev_aload_n (i := 0) dL_kept_272 rfl (by repeat (first | with_reducible exact lk_h | ((with_reducible refine lk_e ?_); rfl) | refine lk_m ?_ rfl)) ?_
  refine ev_iload (i := 14) dL_kept_273 (by repeat (first | with_reducible exact lk_h | ((with_reducible refine lk_e ?_); rfl) | refine lk_m ?_ rfl)) ?_
  refine ev_iconst (v := nI 1) dL_kept_275 rfl ?_
  refine ev_roW dL_kept_276 (a_nameOf (p := k) (w := 1) (v := σ 7 k) hO hI hT hk (by decide) (rfl)) lk_L_108 ⟨Nat.le_of_ble_eq_true rfl, Nat.le_of_ble_eq_true rfl⟩ rfl (Nat.le_of_ble_eq_true rfl) ⟨by first | exact Nat.le_of_ble_eq_true rfl | omega, by first | exact Nat.le_of_ble_eq_true rfl | omega⟩ (fun n_276 => ?_)
  refine ev_l2i dL_kept_279 (lN_i _) ?_
  refine ev_iconst (v := nI 0) dL_kept_280 rfl ?_
  refine ev_roW dL_kept_281 (a_meantS hO hI hT (hI.1.2.2.1 (σ 9 k)).2.2.1 hmc (Or.inl rfl) (sMeant_own hI.2.1.1 hI.1.ho hk ha)) lk_L_118 ⟨Nat.le_of_ble_eq_true rfl, Nat.le_of_ble_eq_true rfl⟩ rfl (Nat.le_of_ble_eq_true rfl) ⟨by first | exact Nat.le_of_ble_eq_true rfl | omega, by first | exact Nat.le_of_ble_eq_true rfl | omega⟩ (fun n_281 => ?_)
  refine ev_iload (i := 16) dL_kept_284 (by repeat (first | with_reducible exact lk_h | ((with_reducible refine lk_e ?_); rfl) | refine lk_m ?_ rfl)) ?_
  refine ev_i2l dL_kept_286 (nI_l (by first | omega | exact Nat.lt_trans (hB _ _) (by decide) | exact hB _ _)) ?_
  refine ev_lcS_ne (tgt := 295) dL_kept_287 dL_kept_288 (by decide) (by rfl) ?_
  refine ev_iconst (v := nI 1) dL_kept_291 rfl ?_
  refine ev_goto (tgt := 296) dL_kept_292 (by decide) ?_
  refine ev_istore_n (i := 2) dL_kept_296 rfl (Nat.le_of_ble_eq_true rfl) ?_
  refine ev_iconst (v := nI 0) dL_kept_297 rfl ?_
  refine ev_istore (i := 18) dL_kept_298 (Nat.le_of_ble_eq_true rfl) ?_
  exact (kept_300_1 hO hI hT hk ha K _ 0 (Nat.zero_le _)).sub1 ⟨(by repeat (first | with_reducible exact lk_h | ((with_reducible refine lk_e ?_); rfl) | refine lk_m ?_ rfl)), (by repeat (first | with_reducible exact lk_h | ((with_reducible refine lk_e ?_); rfl) | refine lk_m ?_ rfl)), (by repeat (first | with_reducible exact lk_h | ((with_reducible refine lk_e ?_); rfl) | refine lk_m ?_ rfl)), (by repeat (first | with_reducible exact lk_h | ((with_reducible refine lk_e ?_); rfl) | refine lk_m ?_ rfl)), (by repeat (first | with_reducible exact lk_h | ((with_reducible refine lk_e ?_); rfl) | refine lk_m ?_ rfl)), (by repeat (first | with_reducible exact lk_h | ((with_reducible refine lk_e ?_); rfl) | refine lk_m ?_ rfl)), (by repeat (first | with_reducible exact lk_h | ((with_reducible refine lk_e ?_); rfl) | refine lk_m ?_ rfl)), (by repeat (first | with_reducible exact lk_h | ((with_reducible refine lk_e ?_); rfl) | refine lk_m ?_ rfl)), (by repeat (first | with_reducible exact lk_h | ((with_reducible refine lk_e ?_); rfl) | refine lk_m ?_ rfl)), (by repeat (first | with_reducible exact lk_h | ((with_reducible refine lk_e ?_); rfl) | refine lk_m ?_ rfl)), (by repeat (first | with_reducible exact lk_h | ((with_reducible refine lk_e ?_); rfl) | refine lk_m ?_ rfl)), (by repeat (first | with_reducible exact lk_h | ((with_reducible refine lk_e ?_); rfl) | refine lk_m ?_ rfl)), (by repeat (first | with_reducible exact lk_h | ((with_reducible refine lk_e ?_); rfl) | refine lk_m ?_ rfl)), (by repeat (first | with_reducible exact lk_h | ((with_reducible refine lk_e ?_); rfl) | refine lk_m ?_ rfl)), trivial⟩ (eff_id rfl)
set_option maxHeartbeats 4000000 in
set_option maxRecDepth 20000 in
theorem kept_39_1 {h : eH} {b ℓ c T : Nat} {σ : St} {x : Nat → Nat} {τ τs : Nat → St} {us : Nat → Nat} (hO : eNB h b σ x ℓ c τ us τs) (hI : gI σ T) (hT : T < 2 ^ 20) {k : Nat} (hk : k < σ 0 1) (hs : σ 12 k = 1) (K : ∀ n_0 : Nat, eV mL_kept 29 [(0, .ref b), (1, .int (nI (σ 0 1))), (2, .int (nI (1))), (3, .long (lN (sSum (σ 10) (k + 1)))), (5, .long (lN (0))), (7, .long (lN (0))), (9, .long (lN (0))), (11, .long (lN (sSum (σ 13) (k + 1)))), (13, .int (nI (cnt (sAlive σ) k + 1))), (14, .int (nI (k + 1)))] [] (h, n_0, 0, 0) (.inl (some (.int (nI 1))), (· = h), none) 0 0) : ∀ n_0 : Nat, eV mL_kept 39 [(0, .ref b), (1, .int (nI (σ 0 1))), (2, .int (nI (1))), (3, .long (lN (sSum (σ 10) k))), (5, .long (lN (0))), (7, .long (lN (0))), (9, .long (lN (0))), (11, .long (lN (sSum (σ 13) k))), (13, .int (nI (cnt (sAlive σ) k))), (14, .int (nI (k)))] [] (h, n_0, 0, 0) (.inl (some (.int (nI 1))), (· = h), none) 0 0 := by
  have hK := hI.ok hT
  have hB := hK.1
  have hP := hK.2.1
  have hN := hK.2.2.1
  have hA := sAl_b hI hT
  intro n_0
  have hW := hI.1.ho k hk
  obtain ⟨hne, h1, h2⟩ := hI.2.2.1 k hk
  have hl := (hI.1.2.2.2.1 k).2.2.2.2.2.1
  have hm1 := (hI.1.2.2.2.2.1 k hk).2.2.1
  have hm4 := (hI.1.2.2.2.1 k).1
  have hc7 := (hI.1.2.2.2.2.1 k hk).2.2.2
  have hmc : sCode (σ 6 k) (σ 7 k) = true := decide_eq_true ⟨hm1, hm4, hc7⟩
  have hb1 := sLet_lt (σ 6 k) (σ 7 k) 0
  have hL9 := sLeft_b hI hk
  have ha : sAlive σ k = true := decide_eq_true (by omega)
  have hL : sLeft σ k ≠ 0 := fun z => by rw [sLeft_0.mp z] at ha; cases ha
  have h13 := h1 (Or.inl hs)
  refine ev_aload_n (i := 0) dL_kept_39 rfl (by repeat (first | with_reducible exact lk_h | ((with_reducible refine lk_e ?_); rfl) | refine lk_m ?_ rfl)) ?_
  refine ev_iload (i := 14) dL_kept_40 (by repeat (first | with_reducible exact lk_h | ((with_reducible refine lk_e ?_); rfl) | refine lk_m ?_ rfl)) ?_
  refine ev_bipush (v := nI 6) dL_kept_42 rfl ?_
  refine ev_roW dL_kept_44 (a_nameOf (p := k) (w := 6) (v := 1) hO hI hT hk (by decide) (hs)) lk_L_108 ⟨Nat.le_of_ble_eq_true rfl, Nat.le_of_ble_eq_true rfl⟩ rfl (Nat.le_of_ble_eq_true rfl) ⟨by first | exact Nat.le_of_ble_eq_true rfl | omega, by first | exact Nat.le_of_ble_eq_true rfl | omega⟩ (fun n_44 => ?_)
  refine ev_ldc2 (v := lN 2) dL_kept_47 wq_L_155 ?_
  refine ev_lcN_ge (tgt := 58) dL_kept_50 dL_kept_51 (by decide) (by first | omega | exact Nat.lt_trans (hB _ _) (by decide) | exact hB _ _) (by first | omega | exact Nat.lt_trans (hB _ _) (by decide) | exact hB _ _) (fun c_50 => absurd c_50 (by omega)) (fun c_50 => ?_)
  refine ev_iconst (v := nI 1) dL_kept_54 rfl ?_
  refine ev_goto (tgt := 59) dL_kept_55 (by decide) ?_
  refine ev_istore (i := 15) dL_kept_59 (Nat.le_of_ble_eq_true rfl) ?_
  refine ev_aload_n (i := 0) dL_kept_61 rfl (by repeat (first | with_reducible exact lk_h | ((with_reducible refine lk_e ?_); rfl) | refine lk_m ?_ rfl)) ?_
  refine ev_iload (i := 14) dL_kept_62 (by repeat (first | with_reducible exact lk_h | ((with_reducible refine lk_e ?_); rfl) | refine lk_m ?_ rfl)) ?_
  refine ev_iconst (v := nI 3) dL_kept_64 rfl ?_
  refine ev_roW dL_kept_65 (a_nameOf (p := k) (w := 3) (v := σ 9 k) hO hI hT hk (by decide) (rfl)) lk_L_108 ⟨Nat.le_of_ble_eq_true rfl, Nat.le_of_ble_eq_true rfl⟩ rfl (Nat.le_of_ble_eq_true rfl) ⟨by first | exact Nat.le_of_ble_eq_true rfl | omega, by first | exact Nat.le_of_ble_eq_true rfl | omega⟩ (fun n_65 => ?_)
  refine ev_l2i dL_kept_68 (lN_i _) ?_
  refine ev_istore (i := 16) dL_kept_69 (Nat.le_of_ble_eq_true rfl) ?_
  refine ev_aload_n (i := 0) dL_kept_71 rfl (by repeat (first | with_reducible exact lk_h | ((with_reducible refine lk_e ?_); rfl) | refine lk_m ?_ rfl)) ?_
  refine ev_iload (i := 16) dL_kept_72 (by repeat (first | with_reducible exact lk_h | ((with_reducible refine lk_e ?_); rfl) | refine lk_m ?_ rfl)) ?_
  refine ev_iconst (v := nI 2) dL_kept_74 rfl ?_
  refine ev_roW dL_kept_75 (a_personOf (p := σ 9 k) (w := 2) (v := σ 3 (σ 9 k)) hO hI hT hW (by decide) (rfl)) lk_L_105 ⟨Nat.le_of_ble_eq_true rfl, Nat.le_of_ble_eq_true rfl⟩ rfl (Nat.le_of_ble_eq_true rfl) ⟨by first | exact Nat.le_of_ble_eq_true rfl | omega, by first | exact Nat.le_of_ble_eq_true rfl | omega⟩ (fun n_75 => ?_)
  refine ev_l2i dL_kept_78 (lN_i _) ?_
  refine ev_istore (i := 17) dL_kept_79 (Nat.le_of_ble_eq_true rfl) ?_
  refine ev_aload_n (i := 0) dL_kept_81 rfl (by repeat (first | with_reducible exact lk_h | ((with_reducible refine lk_e ?_); rfl) | refine lk_m ?_ rfl)) ?_
  refine ev_iload (i := 14) dL_kept_82 (by repeat (first | with_reducible exact lk_h | ((with_reducible refine lk_e ?_); rfl) | refine lk_m ?_ rfl)) ?_
  refine ev_iconst (v := nI 2) dL_kept_84 rfl ?_
  refine ev_roW dL_kept_85 (a_nameOf (p := k) (w := 2) (v := σ 8 k) hO hI hT hk (by decide) (rfl)) lk_L_108 ⟨Nat.le_of_ble_eq_true rfl, Nat.le_of_ble_eq_true rfl⟩ rfl (Nat.le_of_ble_eq_true rfl) ⟨by first | exact Nat.le_of_ble_eq_true rfl | omega, by first | exact Nat.le_of_ble_eq_true rfl | omega⟩ (fun n_85 => ?_)
  refine ev_iload (i := 16) dL_kept_88 (by repeat (first | with_reducible exact lk_h | ((with_reducible refine lk_e ?_); rfl) | refine lk_m ?_ rfl)) ?_
  refine ev_i2l dL_kept_90 (nI_l (by first | omega | exact Nat.lt_trans (hB _ _) (by decide) | exact hB _ _)) ?_
  refine ev_lcN_eq (tgt := 250) dL_kept_91 dL_kept_92 (by decide) (by first | omega | exact Nat.lt_trans (hB _ _) (by decide) | exact hB _ _) (by first | omega | exact Nat.lt_trans (hB _ _) (by decide) | exact hB _ _) (fun c_91 => absurd c_91 (by exact hne)) (fun c_91 => ?_)
  refine ev_aload_n (i := 0) dL_kept_95 rfl (by repeat (first | with_reducible exact lk_h | ((with_reducible refine lk_e ?_); rfl) | refine lk_m ?_ rfl)) ?_
  refine ev_iload (i := 14) dL_kept_96 (by repeat (first | with_reducible exact lk_h | ((with_reducible refine lk_e ?_); rfl) | refine lk_m ?_ rfl)) ?_
  refine ev_iconst (v := nI 5) dL_kept_98 rfl ?_
  refine ev_roW dL_kept_99 (a_nameOf (p := k) (w := 5) (v := σ 11 k) hO hI hT hk (by decide) (rfl)) lk_L_108 ⟨Nat.le_of_ble_eq_true rfl, Nat.le_of_ble_eq_true rfl⟩ rfl (Nat.le_of_ble_eq_true rfl) ⟨by first | exact Nat.le_of_ble_eq_true rfl | omega, by first | exact Nat.le_of_ble_eq_true rfl | omega⟩ (fun n_99 => ?_)
  refine ev_aload_n (i := 0) dL_kept_102 rfl (by repeat (first | with_reducible exact lk_h | ((with_reducible refine lk_e ?_); rfl) | refine lk_m ?_ rfl)) ?_
  refine ev_bipush (v := nI 7) dL_kept_103 rfl ?_
  refine ev_roW dL_kept_105 (a_about (w := 7) (v := σ 0 2) hO hI hT (by first | decide | omega) (rfl)) lk_L_100 ⟨Nat.le_of_ble_eq_true rfl, Nat.le_of_ble_eq_true rfl⟩ rfl (Nat.le_of_ble_eq_true rfl) ⟨by first | exact Nat.le_of_ble_eq_true rfl | omega, by first | exact Nat.le_of_ble_eq_true rfl | omega⟩ (fun n_105 => ?_)
  refine ev_lcN_gt (tgt := 250) dL_kept_108 dL_kept_109 (by decide) (by first | omega | exact Nat.lt_trans (hB _ _) (by decide) | exact hB _ _) (by first | omega | exact Nat.lt_trans (hB _ _) (by decide) | exact hB _ _) (fun c_108 => absurd c_108 (by omega)) (fun c_108 => ?_)
  refine ev_aload_n (i := 0) dL_kept_112 rfl (by repeat (first | with_reducible exact lk_h | ((with_reducible refine lk_e ?_); rfl) | refine lk_m ?_ rfl)) ?_
  refine ev_iload (i := 14) dL_kept_113 (by repeat (first | with_reducible exact lk_h | ((with_reducible refine lk_e ?_); rfl) | refine lk_m ?_ rfl)) ?_
  refine ev_bipush (v := nI 6) dL_kept_115 rfl ?_
  refine ev_roW dL_kept_117 (a_nameOf (p := k) (w := 6) (v := 1) hO hI hT hk (by decide) (hs)) lk_L_108 ⟨Nat.le_of_ble_eq_true rfl, Nat.le_of_ble_eq_true rfl⟩ rfl (Nat.le_of_ble_eq_true rfl) ⟨by first | exact Nat.le_of_ble_eq_true rfl | omega, by first | exact Nat.le_of_ble_eq_true rfl | omega⟩ (fun n_117 => ?_)
  refine ev_lconst (v := lN 1) dL_kept_120 rfl ?_
  refine ev_lcN_eq (tgt := 140) dL_kept_121 dL_kept_122 (by decide) (by first | omega | exact Nat.lt_trans (hB _ _) (by decide) | exact hB _ _) (by first | omega | exact Nat.lt_trans (hB _ _) (by decide) | exact hB _ _) (fun c_121 => ?_) (fun c_121 => absurd c_121 (by omega))
  refine ev_aload_n (i := 0) dL_kept_140 rfl (by repeat (first | with_reducible exact lk_h | ((with_reducible refine lk_e ?_); rfl) | refine lk_m ?_ rfl)) ?_
  refine ev_iload (i := 14) dL_kept_141 (by repeat (first | with_reducible exact lk_h | ((with_reducible refine lk_e ?_); rfl) | refine lk_m ?_ rfl)) ?_
  refine ev_bipush (v := nI 7) dL_kept_143 rfl ?_
  refine ev_roW dL_kept_145 (a_nameOf (p := k) (w := 7) (v := 1) hO hI hT hk (by decide) (h13)) lk_L_108 ⟨Nat.le_of_ble_eq_true rfl, Nat.le_of_ble_eq_true rfl⟩ rfl (Nat.le_of_ble_eq_true rfl) ⟨by first | exact Nat.le_of_ble_eq_true rfl | omega, by first | exact Nat.le_of_ble_eq_true rfl | omega⟩ (fun n_145 => ?_)
  refine ev_lconst (v := lN 1) dL_kept_148 rfl ?_
  refine ev_lcS_ne (tgt := 250) dL_kept_149 dL_kept_150 (by decide) (by rfl) ?_
  refine ev_aload_n (i := 0) dL_kept_153 rfl (by repeat (first | with_reducible exact lk_h | ((with_reducible refine lk_e ?_); rfl) | refine lk_m ?_ rfl)) ?_
  refine ev_iload (i := 14) dL_kept_154 (by repeat (first | with_reducible exact lk_h | ((with_reducible refine lk_e ?_); rfl) | refine lk_m ?_ rfl)) ?_
  refine ev_bipush (v := nI 6) dL_kept_156 rfl ?_
  refine ev_roW dL_kept_158 (a_nameOf (p := k) (w := 6) (v := 1) hO hI hT hk (by decide) (hs)) lk_L_108 ⟨Nat.le_of_ble_eq_true rfl, Nat.le_of_ble_eq_true rfl⟩ rfl (Nat.le_of_ble_eq_true rfl) ⟨by first | exact Nat.le_of_ble_eq_true rfl | omega, by first | exact Nat.le_of_ble_eq_true rfl | omega⟩ (fun n_158 => ?_)
  refine ev_lconst (v := lN 0) dL_kept_161 rfl ?_
  refine ev_lcN_ne (tgt := 179) dL_kept_162 dL_kept_163 (by decide) (by first | omega | exact Nat.lt_trans (hB _ _) (by decide) | exact hB _ _) (by first | omega | exact Nat.lt_trans (hB _ _) (by decide) | exact hB _ _) (fun c_162 => ?_) (fun c_162 => absurd c_162 (by omega))
  refine ev_aload_n (i := 0) dL_kept_179 rfl (by repeat (first | with_reducible exact lk_h | ((with_reducible refine lk_e ?_); rfl) | refine lk_m ?_ rfl)) ?_
  refine ev_iload (i := 14) dL_kept_180 (by repeat (first | with_reducible exact lk_h | ((with_reducible refine lk_e ?_); rfl) | refine lk_m ?_ rfl)) ?_
  refine ev_roW dL_kept_182 (a_endsIn hO hI hT hk) lk_L_136 ⟨Nat.le_of_ble_eq_true rfl, Nat.le_of_ble_eq_true rfl⟩ rfl (Nat.le_of_ble_eq_true rfl) ⟨by first | exact Nat.le_of_ble_eq_true rfl | omega, by first | exact Nat.le_of_ble_eq_true rfl | omega⟩ (fun n_182 => ?_)
  refine ev_lconst (v := lN 0) dL_kept_185 rfl ?_
  refine ev_lcN_ne (tgt := 194) dL_kept_186 dL_kept_187 (by decide) (by first | omega | exact Nat.lt_trans (hB _ _) (by decide) | exact hB _ _) (by first | omega | exact Nat.lt_trans (hB _ _) (by decide) | exact hB _ _) (fun c_186 => ?_) (fun c_186 => absurd c_186 (by omega))
  refine ev_iconst (v := nI 0) dL_kept_194 rfl ?_
  refine ev_iload (i := 15) dL_kept_195 (by repeat (first | with_reducible exact lk_h | ((with_reducible refine lk_e ?_); rfl) | refine lk_m ?_ rfl)) ?_
  refine ev_if_neN (tgt := 204) dL_kept_197 (by decide) (by decide) (fun _ => ?_) (fun c => absurd c (by decide))
  refine ev_iconst (v := nI 0) dL_kept_204 rfl ?_
  refine ev_icS_ne (tgt := 250) dL_kept_205 (by decide) (by rfl) ?_
  refine ev_aload_n (i := 0) dL_kept_208 rfl (by repeat (first | with_reducible exact lk_h | ((with_reducible refine lk_e ?_); rfl) | refine lk_m ?_ rfl)) ?_
  refine ev_iload (i := 14) dL_kept_209 (by repeat (first | with_reducible exact lk_h | ((with_reducible refine lk_e ?_); rfl) | refine lk_m ?_ rfl)) ?_
  refine ev_aload_n (i := 0) dL_kept_211 rfl (by repeat (first | with_reducible exact lk_h | ((with_reducible refine lk_e ?_); rfl) | refine lk_m ?_ rfl)) ?_
  refine ev_iload (i := 14) dL_kept_212 (by repeat (first | with_reducible exact lk_h | ((with_reducible refine lk_e ?_); rfl) | refine lk_m ?_ rfl)) ?_
  refine ev_iconst (v := nI 0) dL_kept_214 rfl ?_
  refine ev_roW dL_kept_215 (a_nameOf (p := k) (w := 0) (v := σ 6 k) hO hI hT hk (by decide) (rfl)) lk_L_108 ⟨Nat.le_of_ble_eq_true rfl, Nat.le_of_ble_eq_true rfl⟩ rfl (Nat.le_of_ble_eq_true rfl) ⟨by first | exact Nat.le_of_ble_eq_true rfl | omega, by first | exact Nat.le_of_ble_eq_true rfl | omega⟩ (fun n_215 => ?_)
  refine ev_l2i dL_kept_218 (lN_i _) ?_
  refine ev_roW dL_kept_219 (a_letterN hO hI hT hk (by first | exact hB _ _ | omega) (if_neg (Nat.lt_irrefl _))) lk_L_114 ⟨Nat.le_of_ble_eq_true rfl, Nat.le_of_ble_eq_true rfl⟩ rfl (Nat.le_of_ble_eq_true rfl) ⟨by first | exact Nat.le_of_ble_eq_true rfl | omega, by first | exact Nat.le_of_ble_eq_true rfl | omega⟩ (fun n_219 => ?_)
  refine ev_ldc2 dL_kept_222 wq_L_159 ?_
  refine ev_lcS_ne (tgt := 250) dL_kept_225 dL_kept_226 (by decide) (by rfl) ?_
  refine ev_aload_n (i := 0) dL_kept_229 rfl (by repeat (first | with_reducible exact lk_h | ((with_reducible refine lk_e ?_); rfl) | refine lk_m ?_ rfl)) ?_
  refine ev_iload (i := 14) dL_kept_230 (by repeat (first | with_reducible exact lk_h | ((with_reducible refine lk_e ?_); rfl) | refine lk_m ?_ rfl)) ?_
  refine ev_iconst (v := nI 0) dL_kept_232 rfl ?_
  refine ev_roW dL_kept_233 (a_letterS hO hI hT hk (by decide) (if_pos (by omega))) lk_L_114 ⟨Nat.le_of_ble_eq_true rfl, Nat.le_of_ble_eq_true rfl⟩ rfl (Nat.le_of_ble_eq_true rfl) ⟨by first | exact Nat.le_of_ble_eq_true rfl | omega, by first | exact Nat.le_of_ble_eq_true rfl | omega⟩ (fun n_233 => ?_)
  refine ev_lconst (v := lN 0) dL_kept_236 rfl ?_
  refine ev_ldc2 (v := lN 25) dL_kept_237 wq_L_161 ?_
  refine ev_roN dL_kept_240 (c_L_in (lo := 0) (hi := 25) (by omega) (by omega) (by omega) (by omega)) lk_L_163 ⟨Nat.le_of_ble_eq_true rfl, Nat.le_of_ble_eq_true rfl⟩ rfl (Nat.le_of_ble_eq_true rfl) ⟨by first | exact Nat.le_of_ble_eq_true rfl | omega, by first | exact Nat.le_of_ble_eq_true rfl | omega⟩ (fun n_240 => ?_)
  refine ev_if_eqN (tgt := 250) dL_kept_243 (by decide) (by decide) (fun c => absurd c (by decide)) (fun _ => ?_)
  refine ev_iconst (v := nI 1) dL_kept_246 rfl ?_
  refine ev_goto (tgt := 251) dL_kept_247 (by decide) ?_
  refine ev_istore_n (i := 2) dL_kept_251 rfl (Nat.le_of_ble_eq_true rfl) ?_
  refine ev_iload_n (i := 2) dL_kept_252 rfl (by repeat (first | with_reducible exact lk_h | ((with_reducible refine lk_e ?_); rfl) | refine lk_m ?_ rfl)) ?_
  refine ev_if_eqN (tgt := 295) dL_kept_253 (by decide) (by decide) (fun c => absurd c (by decide)) (fun _ => ?_)
  refine ev_iload (i := 15) dL_kept_256 (by repeat (first | with_reducible exact lk_h | ((with_reducible refine lk_e ?_); rfl) | refine lk_m ?_ rfl)) ?_
  refine ev_if_eqN (tgt := 291) dL_kept_258 (by decide) (by decide) (fun c => absurd c (by decide)) (fun _ => ?_)
  refine ev_aload_n (i := 0) dL_kept_261 rfl (by repeat (first | with_reducible exact lk_h | ((with_reducible refine lk_e ?_); rfl) | refine lk_m ?_ rfl)) ?_
  refine ev_iload (i := 17) dL_kept_262 (by repeat (first | with_reducible exact lk_h | ((with_reducible refine lk_e ?_); rfl) | refine lk_m ?_ rfl)) ?_
  refine ev_aload_n (i := 0) dL_kept_264 rfl (by repeat (first | with_reducible exact lk_h | ((with_reducible refine lk_e ?_); rfl) | refine lk_m ?_ rfl)) ?_
  refine ev_iload (i := 14) dL_kept_265 (by repeat (first | with_reducible exact lk_h | ((with_reducible refine lk_e ?_); rfl) | refine lk_m ?_ rfl)) ?_
  refine ev_iconst (v := nI 0) dL_kept_267 rfl ?_
  refine ev_roW dL_kept_268 (a_nameOf (p := k) (w := 0) (v := σ 6 k) hO hI hT hk (by decide) (rfl)) lk_L_108 ⟨Nat.le_of_ble_eq_true rfl, Nat.le_of_ble_eq_true rfl⟩ rfl (Nat.le_of_ble_eq_true rfl) ⟨by first | exact Nat.le_of_ble_eq_true rfl | omega, by first | exact Nat.le_of_ble_eq_true rfl | omega⟩ (fun n_268 => ?_)
  refine ev_l2i dL_kept_271 (lN_i _) ?_
  refine ev_aload_n (i := 0) dL_kept_272 rfl (by repeat (first | with_reducible exact lk_h | ((with_reducible refine lk_e ?_); rfl) | refine lk_m ?_ rfl)) ?_
  refine ev_iload (i := 14) dL_kept_273 (by repeat (first | with_reducible exact lk_h | ((with_reducible refine lk_e ?_); rfl) | refine lk_m ?_ rfl)) ?_
  refine ev_iconst (v := nI 1) dL_kept_275 rfl ?_
  refine ev_roW dL_kept_276 (a_nameOf (p := k) (w := 1) (v := σ 7 k) hO hI hT hk (by decide) (rfl)) lk_L_108 ⟨Nat.le_of_ble_eq_true rfl, Nat.le_of_ble_eq_true rfl⟩ rfl (Nat.le_of_ble_eq_true rfl) ⟨by first | exact Nat.le_of_ble_eq_true rfl | omega, by first | exact Nat.le_of_ble_eq_true rfl | omega⟩ (fun n_276 => ?_)
  refine ev_l2i dL_kept_279 (lN_i _) ?_
  refine ev_iconst (v := nI 0) dL_kept_280 rfl ?_
  refine ev_roW dL_kept_281 (a_meantS hO hI hT (hI.1.2.2.1 (σ 9 k)).2.2.1 hmc (Or.inl rfl) (sMeant_own hI.2.1.1 hI.1.ho hk ha)) lk_L_118 ⟨Nat.le_of_ble_eq_true rfl, Nat.le_of_ble_eq_true rfl⟩ rfl (Nat.le_of_ble_eq_true rfl) ⟨by first | exact Nat.le_of_ble_eq_true rfl | omega, by first | exact Nat.le_of_ble_eq_true rfl | omega⟩ (fun n_281 => ?_)
  refine ev_iload (i := 16) dL_kept_284 (by repeat (first | with_reducible exact lk_h | ((with_reducible refine lk_e ?_); rfl) | refine lk_m ?_ rfl)) ?_
  refine ev_i2l dL_kept_286 (nI_l (by first | omega | exact Nat.lt_trans (hB _ _) (by decide) | exact hB _ _)) ?_
  refine ev_lcS_ne (tgt := 295) dL_kept_287 dL_kept_288 (by decide) (by rfl) ?_
  refine ev_iconst (v := nI 1) dL_kept_291 rfl ?_
  refine ev_goto (tgt := 296) dL_kept_292 (by decide) ?_
  refine ev_istore_n (i := 2) dL_kept_296 rfl (Nat.le_of_ble_eq_true rfl) ?_
  refine ev_iconst (v := nI 0) dL_kept_297 rfl ?_
  refine ev_istore (i := 18) dL_kept_298 (Nat.le_of_ble_eq_true rfl) ?_
  exact (kept_300_1 hO hI hT hk ha K _ 0 (Nat.zero_le _)).sub1 ⟨(by repeat (first | with_reducible exact lk_h | ((with_reducible refine lk_e ?_); rfl) | refine lk_m ?_ rfl)), (by repeat (first | with_reducible exact lk_h | ((with_reducible refine lk_e ?_); rfl) | refine lk_m ?_ rfl)), (by repeat (first | with_reducible exact lk_h | ((with_reducible refine lk_e ?_); rfl) | refine lk_m ?_ rfl)), (by repeat (first | with_reducible exact lk_h | ((with_reducible refine lk_e ?_); rfl) | refine lk_m ?_ rfl)), (by repeat (first | with_reducible exact lk_h | ((with_reducible refine lk_e ?_); rfl) | refine lk_m ?_ rfl)), (by repeat (first | with_reducible exact lk_h | ((with_reducible refine lk_e ?_); rfl) | refine lk_m ?_ rfl)), (by repeat (first | with_reducible exact lk_h | ((with_reducible refine lk_e ?_); rfl) | refine lk_m ?_ rfl)), (by repeat (first | with_reducible exact lk_h | ((with_reducible refine lk_e ?_); rfl) | refine lk_m ?_ rfl)), (by repeat (first | with_reducible exact lk_h | ((with_reducible refine lk_e ?_); rfl) | refine lk_m ?_ rfl)), (by repeat (first | with_reducible exact lk_h | ((with_reducible refine lk_e ?_); rfl) | refine lk_m ?_ rfl)), (by repeat (first | with_reducible exact lk_h | ((with_reducible refine lk_e ?_); rfl) | refine lk_m ?_ rfl)), (by repeat (first | with_reducible exact lk_h | ((with_reducible refine lk_e ?_); rfl) | refine lk_m ?_ rfl)), (by repeat (first | with_reducible exact lk_h | ((with_reducible refine lk_e ?_); rfl) | refine lk_m ?_ rfl)), (by repeat (first | with_reducible exact lk_h | ((with_reducible refine lk_e ?_); rfl) | refine lk_m ?_ rfl)), trivial⟩ (eff_id rfl)
set_option maxHeartbeats 4000000 in
set_option maxRecDepth 20000 in
theorem kept_39_2 {h : eH} {b ℓ c T : Nat} {σ : St} {x : Nat → Nat} {τ τs : Nat → St} {us : Nat → Nat} (hO : eNB h b σ x ℓ c τ us τs) (hI : gI σ T) (hT : T < 2 ^ 20) {k : Nat} (hk : k < σ 0 1) (hs : σ 12 k = 2) (K : ∀ n_0 : Nat, eV mL_kept 29 [(0, .ref b), (1, .int (nI (σ 0 1))), (2, .int (nI (1))), (3, .long (lN (sSum (σ 10) (k + 1)))), (5, .long (lN (0))), (7, .long (lN (0))), (9, .long (lN (0))), (11, .long (lN (sSum (σ 13) (k + 1)))), (13, .int (nI (cnt (sAlive σ) k + 0))), (14, .int (nI (k + 1)))] [] (h, n_0, 0, 0) (.inl (some (.int (nI 1))), (· = h), none) 0 0) : ∀ n_0 : Nat, eV mL_kept 39 [(0, .ref b), (1, .int (nI (σ 0 1))), (2, .int (nI (1))), (3, .long (lN (sSum (σ 10) k))), (5, .long (lN (0))), (7, .long (lN (0))), (9, .long (lN (0))), (11, .long (lN (sSum (σ 13) k))), (13, .int (nI (cnt (sAlive σ) k))), (14, .int (nI (k)))] [] (h, n_0, 0, 0) (.inl (some (.int (nI 1))), (· = h), none) 0 0 := by
  have hK := hI.ok hT
  have hB := hK.1
  have hP := hK.2.1
  have hN := hK.2.2.1
  have hA := sAl_b hI hT
  intro n_0
  have hW := hI.1.ho k hk
  obtain ⟨hne, h1, h2⟩ := hI.2.2.1 k hk
  have hl := (hI.1.2.2.2.1 k).2.2.2.2.2.1
  have hm1 := (hI.1.2.2.2.2.1 k hk).2.2.1
  have hm4 := (hI.1.2.2.2.1 k).1
  have hc7 := (hI.1.2.2.2.2.1 k hk).2.2.2
  have hmc : sCode (σ 6 k) (σ 7 k) = true := decide_eq_true ⟨hm1, hm4, hc7⟩
  have hb1 := sLet_lt (σ 6 k) (σ 7 k) 0
  have hL9 := sLeft_b hI hk
  have ha : sAlive σ k = false := decide_eq_false (by omega)
  have hL : sLeft σ k = 0 := sLeft_0.mpr ha
  refine ev_aload_n (i := 0) dL_kept_39 rfl (by repeat (first | with_reducible exact lk_h | ((with_reducible refine lk_e ?_); rfl) | refine lk_m ?_ rfl)) ?_
  refine ev_iload (i := 14) dL_kept_40 (by repeat (first | with_reducible exact lk_h | ((with_reducible refine lk_e ?_); rfl) | refine lk_m ?_ rfl)) ?_
  refine ev_bipush (v := nI 6) dL_kept_42 rfl ?_
  refine ev_roW dL_kept_44 (a_nameOf (p := k) (w := 6) (v := 2) hO hI hT hk (by decide) (hs)) lk_L_108 ⟨Nat.le_of_ble_eq_true rfl, Nat.le_of_ble_eq_true rfl⟩ rfl (Nat.le_of_ble_eq_true rfl) ⟨by first | exact Nat.le_of_ble_eq_true rfl | omega, by first | exact Nat.le_of_ble_eq_true rfl | omega⟩ (fun n_44 => ?_)
  refine ev_ldc2 (v := lN 2) dL_kept_47 wq_L_155 ?_
  refine ev_lcN_ge (tgt := 58) dL_kept_50 dL_kept_51 (by decide) (by first | omega | exact Nat.lt_trans (hB _ _) (by decide) | exact hB _ _) (by first | omega | exact Nat.lt_trans (hB _ _) (by decide) | exact hB _ _) (fun c_50 => ?_) (fun c_50 => absurd c_50 (by omega))
  refine ev_iconst (v := nI 0) dL_kept_58 rfl ?_
  refine ev_istore (i := 15) dL_kept_59 (Nat.le_of_ble_eq_true rfl) ?_
  refine ev_aload_n (i := 0) dL_kept_61 rfl (by repeat (first | with_reducible exact lk_h | ((with_reducible refine lk_e ?_); rfl) | refine lk_m ?_ rfl)) ?_
  refine ev_iload (i := 14) dL_kept_62 (by repeat (first | with_reducible exact lk_h | ((with_reducible refine lk_e ?_); rfl) | refine lk_m ?_ rfl)) ?_
  refine ev_iconst (v := nI 3) dL_kept_64 rfl ?_
  refine ev_roW dL_kept_65 (a_nameOf (p := k) (w := 3) (v := σ 9 k) hO hI hT hk (by decide) (rfl)) lk_L_108 ⟨Nat.le_of_ble_eq_true rfl, Nat.le_of_ble_eq_true rfl⟩ rfl (Nat.le_of_ble_eq_true rfl) ⟨by first | exact Nat.le_of_ble_eq_true rfl | omega, by first | exact Nat.le_of_ble_eq_true rfl | omega⟩ (fun n_65 => ?_)
  refine ev_l2i dL_kept_68 (lN_i _) ?_
  refine ev_istore (i := 16) dL_kept_69 (Nat.le_of_ble_eq_true rfl) ?_
  refine ev_aload_n (i := 0) dL_kept_71 rfl (by repeat (first | with_reducible exact lk_h | ((with_reducible refine lk_e ?_); rfl) | refine lk_m ?_ rfl)) ?_
  refine ev_iload (i := 16) dL_kept_72 (by repeat (first | with_reducible exact lk_h | ((with_reducible refine lk_e ?_); rfl) | refine lk_m ?_ rfl)) ?_
  refine ev_iconst (v := nI 2) dL_kept_74 rfl ?_
  refine ev_roW dL_kept_75 (a_personOf (p := σ 9 k) (w := 2) (v := σ 3 (σ 9 k)) hO hI hT hW (by decide) (rfl)) lk_L_105 ⟨Nat.le_of_ble_eq_true rfl, Nat.le_of_ble_eq_true rfl⟩ rfl (Nat.le_of_ble_eq_true rfl) ⟨by first | exact Nat.le_of_ble_eq_true rfl | omega, by first | exact Nat.le_of_ble_eq_true rfl | omega⟩ (fun n_75 => ?_)
  refine ev_l2i dL_kept_78 (lN_i _) ?_
  refine ev_istore (i := 17) dL_kept_79 (Nat.le_of_ble_eq_true rfl) ?_
  refine ev_aload_n (i := 0) dL_kept_81 rfl (by repeat (first | with_reducible exact lk_h | ((with_reducible refine lk_e ?_); rfl) | refine lk_m ?_ rfl)) ?_
  refine ev_iload (i := 14) dL_kept_82 (by repeat (first | with_reducible exact lk_h | ((with_reducible refine lk_e ?_); rfl) | refine lk_m ?_ rfl)) ?_
  refine ev_iconst (v := nI 2) dL_kept_84 rfl ?_
  refine ev_roW dL_kept_85 (a_nameOf (p := k) (w := 2) (v := σ 8 k) hO hI hT hk (by decide) (rfl)) lk_L_108 ⟨Nat.le_of_ble_eq_true rfl, Nat.le_of_ble_eq_true rfl⟩ rfl (Nat.le_of_ble_eq_true rfl) ⟨by first | exact Nat.le_of_ble_eq_true rfl | omega, by first | exact Nat.le_of_ble_eq_true rfl | omega⟩ (fun n_85 => ?_)
  refine ev_iload (i := 16) dL_kept_88 (by repeat (first | with_reducible exact lk_h | ((with_reducible refine lk_e ?_); rfl) | refine lk_m ?_ rfl)) ?_
  refine ev_i2l dL_kept_90 (nI_l (by first | omega | exact Nat.lt_trans (hB _ _) (by decide) | exact hB _ _)) ?_
  refine ev_lcN_eq (tgt := 250) dL_kept_91 dL_kept_92 (by decide) (by first | omega | exact Nat.lt_trans (hB _ _) (by decide) | exact hB _ _) (by first | omega | exact Nat.lt_trans (hB _ _) (by decide) | exact hB _ _) (fun c_91 => absurd c_91 (by exact hne)) (fun c_91 => ?_)
  refine ev_aload_n (i := 0) dL_kept_95 rfl (by repeat (first | with_reducible exact lk_h | ((with_reducible refine lk_e ?_); rfl) | refine lk_m ?_ rfl)) ?_
  refine ev_iload (i := 14) dL_kept_96 (by repeat (first | with_reducible exact lk_h | ((with_reducible refine lk_e ?_); rfl) | refine lk_m ?_ rfl)) ?_
  refine ev_iconst (v := nI 5) dL_kept_98 rfl ?_
  refine ev_roW dL_kept_99 (a_nameOf (p := k) (w := 5) (v := σ 11 k) hO hI hT hk (by decide) (rfl)) lk_L_108 ⟨Nat.le_of_ble_eq_true rfl, Nat.le_of_ble_eq_true rfl⟩ rfl (Nat.le_of_ble_eq_true rfl) ⟨by first | exact Nat.le_of_ble_eq_true rfl | omega, by first | exact Nat.le_of_ble_eq_true rfl | omega⟩ (fun n_99 => ?_)
  refine ev_aload_n (i := 0) dL_kept_102 rfl (by repeat (first | with_reducible exact lk_h | ((with_reducible refine lk_e ?_); rfl) | refine lk_m ?_ rfl)) ?_
  refine ev_bipush (v := nI 7) dL_kept_103 rfl ?_
  refine ev_roW dL_kept_105 (a_about (w := 7) (v := σ 0 2) hO hI hT (by first | decide | omega) (rfl)) lk_L_100 ⟨Nat.le_of_ble_eq_true rfl, Nat.le_of_ble_eq_true rfl⟩ rfl (Nat.le_of_ble_eq_true rfl) ⟨by first | exact Nat.le_of_ble_eq_true rfl | omega, by first | exact Nat.le_of_ble_eq_true rfl | omega⟩ (fun n_105 => ?_)
  refine ev_lcN_gt (tgt := 250) dL_kept_108 dL_kept_109 (by decide) (by first | omega | exact Nat.lt_trans (hB _ _) (by decide) | exact hB _ _) (by first | omega | exact Nat.lt_trans (hB _ _) (by decide) | exact hB _ _) (fun c_108 => absurd c_108 (by omega)) (fun c_108 => ?_)
  refine ev_aload_n (i := 0) dL_kept_112 rfl (by repeat (first | with_reducible exact lk_h | ((with_reducible refine lk_e ?_); rfl) | refine lk_m ?_ rfl)) ?_
  refine ev_iload (i := 14) dL_kept_113 (by repeat (first | with_reducible exact lk_h | ((with_reducible refine lk_e ?_); rfl) | refine lk_m ?_ rfl)) ?_
  refine ev_bipush (v := nI 6) dL_kept_115 rfl ?_
  refine ev_roW dL_kept_117 (a_nameOf (p := k) (w := 6) (v := 2) hO hI hT hk (by decide) (hs)) lk_L_108 ⟨Nat.le_of_ble_eq_true rfl, Nat.le_of_ble_eq_true rfl⟩ rfl (Nat.le_of_ble_eq_true rfl) ⟨by first | exact Nat.le_of_ble_eq_true rfl | omega, by first | exact Nat.le_of_ble_eq_true rfl | omega⟩ (fun n_117 => ?_)
  refine ev_lconst (v := lN 1) dL_kept_120 rfl ?_
  refine ev_lcN_eq (tgt := 140) dL_kept_121 dL_kept_122 (by decide) (by first | omega | exact Nat.lt_trans (hB _ _) (by decide) | exact hB _ _) (by first | omega | exact Nat.lt_trans (hB _ _) (by decide) | exact hB _ _) (fun c_121 => absurd c_121 (by omega)) (fun c_121 => ?_)
  refine ev_aload_n (i := 0) dL_kept_125 rfl (by repeat (first | with_reducible exact lk_h | ((with_reducible refine lk_e ?_); rfl) | refine lk_m ?_ rfl)) ?_
  refine ev_iload (i := 14) dL_kept_126 (by repeat (first | with_reducible exact lk_h | ((with_reducible refine lk_e ?_); rfl) | refine lk_m ?_ rfl)) ?_
  refine ev_bipush (v := nI 6) dL_kept_128 rfl ?_
  refine ev_roW dL_kept_130 (a_nameOf (p := k) (w := 6) (v := 2) hO hI hT hk (by decide) (hs)) lk_L_108 ⟨Nat.le_of_ble_eq_true rfl, Nat.le_of_ble_eq_true rfl⟩ rfl (Nat.le_of_ble_eq_true rfl) ⟨by first | exact Nat.le_of_ble_eq_true rfl | omega, by first | exact Nat.le_of_ble_eq_true rfl | omega⟩ (fun n_130 => ?_)
  refine ev_ldc2 (v := lN 4) dL_kept_133 wq_L_157 ?_
  refine ev_lcN_ne (tgt := 153) dL_kept_136 dL_kept_137 (by decide) (by first | omega | exact Nat.lt_trans (hB _ _) (by decide) | exact hB _ _) (by first | omega | exact Nat.lt_trans (hB _ _) (by decide) | exact hB _ _) (fun c_136 => ?_) (fun c_136 => absurd c_136 (by omega))
  refine ev_aload_n (i := 0) dL_kept_153 rfl (by repeat (first | with_reducible exact lk_h | ((with_reducible refine lk_e ?_); rfl) | refine lk_m ?_ rfl)) ?_
  refine ev_iload (i := 14) dL_kept_154 (by repeat (first | with_reducible exact lk_h | ((with_reducible refine lk_e ?_); rfl) | refine lk_m ?_ rfl)) ?_
  refine ev_bipush (v := nI 6) dL_kept_156 rfl ?_
  refine ev_roW dL_kept_158 (a_nameOf (p := k) (w := 6) (v := 2) hO hI hT hk (by decide) (hs)) lk_L_108 ⟨Nat.le_of_ble_eq_true rfl, Nat.le_of_ble_eq_true rfl⟩ rfl (Nat.le_of_ble_eq_true rfl) ⟨by first | exact Nat.le_of_ble_eq_true rfl | omega, by first | exact Nat.le_of_ble_eq_true rfl | omega⟩ (fun n_158 => ?_)
  refine ev_lconst (v := lN 0) dL_kept_161 rfl ?_
  refine ev_lcN_ne (tgt := 179) dL_kept_162 dL_kept_163 (by decide) (by first | omega | exact Nat.lt_trans (hB _ _) (by decide) | exact hB _ _) (by first | omega | exact Nat.lt_trans (hB _ _) (by decide) | exact hB _ _) (fun c_162 => ?_) (fun c_162 => absurd c_162 (by omega))
  refine ev_aload_n (i := 0) dL_kept_179 rfl (by repeat (first | with_reducible exact lk_h | ((with_reducible refine lk_e ?_); rfl) | refine lk_m ?_ rfl)) ?_
  refine ev_iload (i := 14) dL_kept_180 (by repeat (first | with_reducible exact lk_h | ((with_reducible refine lk_e ?_); rfl) | refine lk_m ?_ rfl)) ?_
  refine ev_roW dL_kept_182 (a_endsIn hO hI hT hk) lk_L_136 ⟨Nat.le_of_ble_eq_true rfl, Nat.le_of_ble_eq_true rfl⟩ rfl (Nat.le_of_ble_eq_true rfl) ⟨by first | exact Nat.le_of_ble_eq_true rfl | omega, by first | exact Nat.le_of_ble_eq_true rfl | omega⟩ (fun n_182 => ?_)
  refine ev_lconst (v := lN 0) dL_kept_185 rfl ?_
  refine ev_lcN_ne (tgt := 194) dL_kept_186 dL_kept_187 (by decide) (by first | omega | exact Nat.lt_trans (hB _ _) (by decide) | exact hB _ _) (by first | omega | exact Nat.lt_trans (hB _ _) (by decide) | exact hB _ _) (fun c_186 => absurd c_186 (by omega)) (fun c_186 => ?_)
  refine ev_iconst (v := nI 1) dL_kept_190 rfl ?_
  refine ev_goto (tgt := 195) dL_kept_191 (by decide) ?_
  refine ev_iload (i := 15) dL_kept_195 (by repeat (first | with_reducible exact lk_h | ((with_reducible refine lk_e ?_); rfl) | refine lk_m ?_ rfl)) ?_
  refine ev_if_neN (tgt := 204) dL_kept_197 (by decide) (by decide) (fun c => absurd c (by decide)) (fun _ => ?_)
  refine ev_iconst (v := nI 1) dL_kept_200 rfl ?_
  refine ev_goto (tgt := 205) dL_kept_201 (by decide) ?_
  refine ev_icS_ne (tgt := 250) dL_kept_205 (by decide) (by rfl) ?_
  refine ev_aload_n (i := 0) dL_kept_208 rfl (by repeat (first | with_reducible exact lk_h | ((with_reducible refine lk_e ?_); rfl) | refine lk_m ?_ rfl)) ?_
  refine ev_iload (i := 14) dL_kept_209 (by repeat (first | with_reducible exact lk_h | ((with_reducible refine lk_e ?_); rfl) | refine lk_m ?_ rfl)) ?_
  refine ev_aload_n (i := 0) dL_kept_211 rfl (by repeat (first | with_reducible exact lk_h | ((with_reducible refine lk_e ?_); rfl) | refine lk_m ?_ rfl)) ?_
  refine ev_iload (i := 14) dL_kept_212 (by repeat (first | with_reducible exact lk_h | ((with_reducible refine lk_e ?_); rfl) | refine lk_m ?_ rfl)) ?_
  refine ev_iconst (v := nI 0) dL_kept_214 rfl ?_
  refine ev_roW dL_kept_215 (a_nameOf (p := k) (w := 0) (v := σ 6 k) hO hI hT hk (by decide) (rfl)) lk_L_108 ⟨Nat.le_of_ble_eq_true rfl, Nat.le_of_ble_eq_true rfl⟩ rfl (Nat.le_of_ble_eq_true rfl) ⟨by first | exact Nat.le_of_ble_eq_true rfl | omega, by first | exact Nat.le_of_ble_eq_true rfl | omega⟩ (fun n_215 => ?_)
  refine ev_l2i dL_kept_218 (lN_i _) ?_
  refine ev_roW dL_kept_219 (a_letterN hO hI hT hk (by first | exact hB _ _ | omega) (if_neg (Nat.lt_irrefl _))) lk_L_114 ⟨Nat.le_of_ble_eq_true rfl, Nat.le_of_ble_eq_true rfl⟩ rfl (Nat.le_of_ble_eq_true rfl) ⟨by first | exact Nat.le_of_ble_eq_true rfl | omega, by first | exact Nat.le_of_ble_eq_true rfl | omega⟩ (fun n_219 => ?_)
  refine ev_ldc2 dL_kept_222 wq_L_159 ?_
  refine ev_lcS_ne (tgt := 250) dL_kept_225 dL_kept_226 (by decide) (by rfl) ?_
  refine ev_aload_n (i := 0) dL_kept_229 rfl (by repeat (first | with_reducible exact lk_h | ((with_reducible refine lk_e ?_); rfl) | refine lk_m ?_ rfl)) ?_
  refine ev_iload (i := 14) dL_kept_230 (by repeat (first | with_reducible exact lk_h | ((with_reducible refine lk_e ?_); rfl) | refine lk_m ?_ rfl)) ?_
  refine ev_iconst (v := nI 0) dL_kept_232 rfl ?_
  refine ev_roW dL_kept_233 (a_letterS hO hI hT hk (by decide) (if_pos (by omega))) lk_L_114 ⟨Nat.le_of_ble_eq_true rfl, Nat.le_of_ble_eq_true rfl⟩ rfl (Nat.le_of_ble_eq_true rfl) ⟨by first | exact Nat.le_of_ble_eq_true rfl | omega, by first | exact Nat.le_of_ble_eq_true rfl | omega⟩ (fun n_233 => ?_)
  refine ev_lconst (v := lN 0) dL_kept_236 rfl ?_
  refine ev_ldc2 (v := lN 25) dL_kept_237 wq_L_161 ?_
  refine ev_roN dL_kept_240 (c_L_in (lo := 0) (hi := 25) (by omega) (by omega) (by omega) (by omega)) lk_L_163 ⟨Nat.le_of_ble_eq_true rfl, Nat.le_of_ble_eq_true rfl⟩ rfl (Nat.le_of_ble_eq_true rfl) ⟨by first | exact Nat.le_of_ble_eq_true rfl | omega, by first | exact Nat.le_of_ble_eq_true rfl | omega⟩ (fun n_240 => ?_)
  refine ev_if_eqN (tgt := 250) dL_kept_243 (by decide) (by decide) (fun c => absurd c (by decide)) (fun _ => ?_)
  refine ev_iconst (v := nI 1) dL_kept_246 rfl ?_
  refine ev_goto (tgt := 251) dL_kept_247 (by decide) ?_
  refine ev_istore_n (i := 2) dL_kept_251 rfl (Nat.le_of_ble_eq_true rfl) ?_
  refine ev_iload_n (i := 2) dL_kept_252 rfl (by repeat (first | with_reducible exact lk_h | ((with_reducible refine lk_e ?_); rfl) | refine lk_m ?_ rfl)) ?_
  refine ev_if_eqN (tgt := 295) dL_kept_253 (by decide) (by decide) (fun c => absurd c (by decide)) (fun _ => ?_)
  refine ev_iload (i := 15) dL_kept_256 (by repeat (first | with_reducible exact lk_h | ((with_reducible refine lk_e ?_); rfl) | refine lk_m ?_ rfl)) ?_
  refine ev_if_eqN (tgt := 291) dL_kept_258 (by decide) (by decide) (fun _ => ?_) (fun c => absurd c (by decide))
  refine ev_iconst (v := nI 1) dL_kept_291 rfl ?_
  refine ev_goto (tgt := 296) dL_kept_292 (by decide) ?_
  refine ev_istore_n (i := 2) dL_kept_296 rfl (Nat.le_of_ble_eq_true rfl) ?_
  refine ev_iconst (v := nI 0) dL_kept_297 rfl ?_
  refine ev_istore (i := 18) dL_kept_298 (Nat.le_of_ble_eq_true rfl) ?_
  exact (kept_300_0 hO hI hT hk K _ 0 (Nat.zero_le _)).sub1 ⟨(by repeat (first | with_reducible exact lk_h | ((with_reducible refine lk_e ?_); rfl) | refine lk_m ?_ rfl)), (by repeat (first | with_reducible exact lk_h | ((with_reducible refine lk_e ?_); rfl) | refine lk_m ?_ rfl)), (by repeat (first | with_reducible exact lk_h | ((with_reducible refine lk_e ?_); rfl) | refine lk_m ?_ rfl)), (by repeat (first | with_reducible exact lk_h | ((with_reducible refine lk_e ?_); rfl) | refine lk_m ?_ rfl)), (by repeat (first | with_reducible exact lk_h | ((with_reducible refine lk_e ?_); rfl) | refine lk_m ?_ rfl)), (by repeat (first | with_reducible exact lk_h | ((with_reducible refine lk_e ?_); rfl) | refine lk_m ?_ rfl)), (by repeat (first | with_reducible exact lk_h | ((with_reducible refine lk_e ?_); rfl) | refine lk_m ?_ rfl)), (by repeat (first | with_reducible exact lk_h | ((with_reducible refine lk_e ?_); rfl) | refine lk_m ?_ rfl)), (by repeat (first | with_reducible exact lk_h | ((with_reducible refine lk_e ?_); rfl) | refine lk_m ?_ rfl)), (by repeat (first | with_reducible exact lk_h | ((with_reducible refine lk_e ?_); rfl) | refine lk_m ?_ rfl)), (by repeat (first | with_reducible exact lk_h | ((with_reducible refine lk_e ?_); rfl) | refine lk_m ?_ rfl)), (by repeat (first | with_reducible exact lk_h | ((with_reducible refine lk_e ?_); rfl) | refine lk_m ?_ rfl)), (by repeat (first | with_reducible exact lk_h | ((with_reducible refine lk_e ?_); rfl) | refine lk_m ?_ rfl)), (by repeat (first | with_reducible exact lk_h | ((with_reducible refine lk_e ?_); rfl) | refine lk_m ?_ rfl)), trivial⟩ (eff_id rfl)
set_option maxHeartbeats 4000000 in
set_option maxRecDepth 20000 in
theorem kept_39_3 {h : eH} {b ℓ c T : Nat} {σ : St} {x : Nat → Nat} {τ τs : Nat → St} {us : Nat → Nat} (hO : eNB h b σ x ℓ c τ us τs) (hI : gI σ T) (hT : T < 2 ^ 20) {k : Nat} (hk : k < σ 0 1) (hs : σ 12 k = 3) (K : ∀ n_0 : Nat, eV mL_kept 29 [(0, .ref b), (1, .int (nI (σ 0 1))), (2, .int (nI (1))), (3, .long (lN (sSum (σ 10) (k + 1)))), (5, .long (lN (0))), (7, .long (lN (0))), (9, .long (lN (0))), (11, .long (lN (sSum (σ 13) (k + 1)))), (13, .int (nI (cnt (sAlive σ) k + 0))), (14, .int (nI (k + 1)))] [] (h, n_0, 0, 0) (.inl (some (.int (nI 1))), (· = h), none) 0 0) : ∀ n_0 : Nat, eV mL_kept 39 [(0, .ref b), (1, .int (nI (σ 0 1))), (2, .int (nI (1))), (3, .long (lN (sSum (σ 10) k))), (5, .long (lN (0))), (7, .long (lN (0))), (9, .long (lN (0))), (11, .long (lN (sSum (σ 13) k))), (13, .int (nI (cnt (sAlive σ) k))), (14, .int (nI (k)))] [] (h, n_0, 0, 0) (.inl (some (.int (nI 1))), (· = h), none) 0 0 := by
  have hK := hI.ok hT
  have hB := hK.1
  have hP := hK.2.1
  have hN := hK.2.2.1
  have hA := sAl_b hI hT
  intro n_0
  have hW := hI.1.ho k hk
  obtain ⟨hne, h1, h2⟩ := hI.2.2.1 k hk
  have hl := (hI.1.2.2.2.1 k).2.2.2.2.2.1
  have hm1 := (hI.1.2.2.2.2.1 k hk).2.2.1
  have hm4 := (hI.1.2.2.2.1 k).1
  have hc7 := (hI.1.2.2.2.2.1 k hk).2.2.2
  have hmc : sCode (σ 6 k) (σ 7 k) = true := decide_eq_true ⟨hm1, hm4, hc7⟩
  have hb1 := sLet_lt (σ 6 k) (σ 7 k) 0
  have hL9 := sLeft_b hI hk
  have ha : sAlive σ k = false := decide_eq_false (by omega)
  have hL : sLeft σ k = 0 := sLeft_0.mpr ha
  refine ev_aload_n (i := 0) dL_kept_39 rfl (by repeat (first | with_reducible exact lk_h | ((with_reducible refine lk_e ?_); rfl) | refine lk_m ?_ rfl)) ?_
  refine ev_iload (i := 14) dL_kept_40 (by repeat (first | with_reducible exact lk_h | ((with_reducible refine lk_e ?_); rfl) | refine lk_m ?_ rfl)) ?_
  refine ev_bipush (v := nI 6) dL_kept_42 rfl ?_
  refine ev_roW dL_kept_44 (a_nameOf (p := k) (w := 6) (v := 3) hO hI hT hk (by decide) (hs)) lk_L_108 ⟨Nat.le_of_ble_eq_true rfl, Nat.le_of_ble_eq_true rfl⟩ rfl (Nat.le_of_ble_eq_true rfl) ⟨by first | exact Nat.le_of_ble_eq_true rfl | omega, by first | exact Nat.le_of_ble_eq_true rfl | omega⟩ (fun n_44 => ?_)
  refine ev_ldc2 (v := lN 2) dL_kept_47 wq_L_155 ?_
  refine ev_lcN_ge (tgt := 58) dL_kept_50 dL_kept_51 (by decide) (by first | omega | exact Nat.lt_trans (hB _ _) (by decide) | exact hB _ _) (by first | omega | exact Nat.lt_trans (hB _ _) (by decide) | exact hB _ _) (fun c_50 => ?_) (fun c_50 => absurd c_50 (by omega))
  refine ev_iconst (v := nI 0) dL_kept_58 rfl ?_
  refine ev_istore (i := 15) dL_kept_59 (Nat.le_of_ble_eq_true rfl) ?_
  refine ev_aload_n (i := 0) dL_kept_61 rfl (by repeat (first | with_reducible exact lk_h | ((with_reducible refine lk_e ?_); rfl) | refine lk_m ?_ rfl)) ?_
  refine ev_iload (i := 14) dL_kept_62 (by repeat (first | with_reducible exact lk_h | ((with_reducible refine lk_e ?_); rfl) | refine lk_m ?_ rfl)) ?_
  refine ev_iconst (v := nI 3) dL_kept_64 rfl ?_
  refine ev_roW dL_kept_65 (a_nameOf (p := k) (w := 3) (v := σ 9 k) hO hI hT hk (by decide) (rfl)) lk_L_108 ⟨Nat.le_of_ble_eq_true rfl, Nat.le_of_ble_eq_true rfl⟩ rfl (Nat.le_of_ble_eq_true rfl) ⟨by first | exact Nat.le_of_ble_eq_true rfl | omega, by first | exact Nat.le_of_ble_eq_true rfl | omega⟩ (fun n_65 => ?_)
  refine ev_l2i dL_kept_68 (lN_i _) ?_
  refine ev_istore (i := 16) dL_kept_69 (Nat.le_of_ble_eq_true rfl) ?_
  refine ev_aload_n (i := 0) dL_kept_71 rfl (by repeat (first | with_reducible exact lk_h | ((with_reducible refine lk_e ?_); rfl) | refine lk_m ?_ rfl)) ?_
  refine ev_iload (i := 16) dL_kept_72 (by repeat (first | with_reducible exact lk_h | ((with_reducible refine lk_e ?_); rfl) | refine lk_m ?_ rfl)) ?_
  refine ev_iconst (v := nI 2) dL_kept_74 rfl ?_
  refine ev_roW dL_kept_75 (a_personOf (p := σ 9 k) (w := 2) (v := σ 3 (σ 9 k)) hO hI hT hW (by decide) (rfl)) lk_L_105 ⟨Nat.le_of_ble_eq_true rfl, Nat.le_of_ble_eq_true rfl⟩ rfl (Nat.le_of_ble_eq_true rfl) ⟨by first | exact Nat.le_of_ble_eq_true rfl | omega, by first | exact Nat.le_of_ble_eq_true rfl | omega⟩ (fun n_75 => ?_)
  refine ev_l2i dL_kept_78 (lN_i _) ?_
  refine ev_istore (i := 17) dL_kept_79 (Nat.le_of_ble_eq_true rfl) ?_
  refine ev_aload_n (i := 0) dL_kept_81 rfl (by repeat (first | with_reducible exact lk_h | ((with_reducible refine lk_e ?_); rfl) | refine lk_m ?_ rfl)) ?_
  refine ev_iload (i := 14) dL_kept_82 (by repeat (first | with_reducible exact lk_h | ((with_reducible refine lk_e ?_); rfl) | refine lk_m ?_ rfl)) ?_
  refine ev_iconst (v := nI 2) dL_kept_84 rfl ?_
  refine ev_roW dL_kept_85 (a_nameOf (p := k) (w := 2) (v := σ 8 k) hO hI hT hk (by decide) (rfl)) lk_L_108 ⟨Nat.le_of_ble_eq_true rfl, Nat.le_of_ble_eq_true rfl⟩ rfl (Nat.le_of_ble_eq_true rfl) ⟨by first | exact Nat.le_of_ble_eq_true rfl | omega, by first | exact Nat.le_of_ble_eq_true rfl | omega⟩ (fun n_85 => ?_)
  refine ev_iload (i := 16) dL_kept_88 (by repeat (first | with_reducible exact lk_h | ((with_reducible refine lk_e ?_); rfl) | refine lk_m ?_ rfl)) ?_
  refine ev_i2l dL_kept_90 (nI_l (by first | omega | exact Nat.lt_trans (hB _ _) (by decide) | exact hB _ _)) ?_
  refine ev_lcN_eq (tgt := 250) dL_kept_91 dL_kept_92 (by decide) (by first | omega | exact Nat.lt_trans (hB _ _) (by decide) | exact hB _ _) (by first | omega | exact Nat.lt_trans (hB _ _) (by decide) | exact hB _ _) (fun c_91 => absurd c_91 (by exact hne)) (fun c_91 => ?_)
  refine ev_aload_n (i := 0) dL_kept_95 rfl (by repeat (first | with_reducible exact lk_h | ((with_reducible refine lk_e ?_); rfl) | refine lk_m ?_ rfl)) ?_
  refine ev_iload (i := 14) dL_kept_96 (by repeat (first | with_reducible exact lk_h | ((with_reducible refine lk_e ?_); rfl) | refine lk_m ?_ rfl)) ?_
  refine ev_iconst (v := nI 5) dL_kept_98 rfl ?_
  refine ev_roW dL_kept_99 (a_nameOf (p := k) (w := 5) (v := σ 11 k) hO hI hT hk (by decide) (rfl)) lk_L_108 ⟨Nat.le_of_ble_eq_true rfl, Nat.le_of_ble_eq_true rfl⟩ rfl (Nat.le_of_ble_eq_true rfl) ⟨by first | exact Nat.le_of_ble_eq_true rfl | omega, by first | exact Nat.le_of_ble_eq_true rfl | omega⟩ (fun n_99 => ?_)
  refine ev_aload_n (i := 0) dL_kept_102 rfl (by repeat (first | with_reducible exact lk_h | ((with_reducible refine lk_e ?_); rfl) | refine lk_m ?_ rfl)) ?_
  refine ev_bipush (v := nI 7) dL_kept_103 rfl ?_
  refine ev_roW dL_kept_105 (a_about (w := 7) (v := σ 0 2) hO hI hT (by first | decide | omega) (rfl)) lk_L_100 ⟨Nat.le_of_ble_eq_true rfl, Nat.le_of_ble_eq_true rfl⟩ rfl (Nat.le_of_ble_eq_true rfl) ⟨by first | exact Nat.le_of_ble_eq_true rfl | omega, by first | exact Nat.le_of_ble_eq_true rfl | omega⟩ (fun n_105 => ?_)
  refine ev_lcN_gt (tgt := 250) dL_kept_108 dL_kept_109 (by decide) (by first | omega | exact Nat.lt_trans (hB _ _) (by decide) | exact hB _ _) (by first | omega | exact Nat.lt_trans (hB _ _) (by decide) | exact hB _ _) (fun c_108 => absurd c_108 (by omega)) (fun c_108 => ?_)
  refine ev_aload_n (i := 0) dL_kept_112 rfl (by repeat (first | with_reducible exact lk_h | ((with_reducible refine lk_e ?_); rfl) | refine lk_m ?_ rfl)) ?_
  refine ev_iload (i := 14) dL_kept_113 (by repeat (first | with_reducible exact lk_h | ((with_reducible refine lk_e ?_); rfl) | refine lk_m ?_ rfl)) ?_
  refine ev_bipush (v := nI 6) dL_kept_115 rfl ?_
  refine ev_roW dL_kept_117 (a_nameOf (p := k) (w := 6) (v := 3) hO hI hT hk (by decide) (hs)) lk_L_108 ⟨Nat.le_of_ble_eq_true rfl, Nat.le_of_ble_eq_true rfl⟩ rfl (Nat.le_of_ble_eq_true rfl) ⟨by first | exact Nat.le_of_ble_eq_true rfl | omega, by first | exact Nat.le_of_ble_eq_true rfl | omega⟩ (fun n_117 => ?_)
  refine ev_lconst (v := lN 1) dL_kept_120 rfl ?_
  refine ev_lcN_eq (tgt := 140) dL_kept_121 dL_kept_122 (by decide) (by first | omega | exact Nat.lt_trans (hB _ _) (by decide) | exact hB _ _) (by first | omega | exact Nat.lt_trans (hB _ _) (by decide) | exact hB _ _) (fun c_121 => absurd c_121 (by omega)) (fun c_121 => ?_)
  refine ev_aload_n (i := 0) dL_kept_125 rfl (by repeat (first | with_reducible exact lk_h | ((with_reducible refine lk_e ?_); rfl) | refine lk_m ?_ rfl)) ?_
  refine ev_iload (i := 14) dL_kept_126 (by repeat (first | with_reducible exact lk_h | ((with_reducible refine lk_e ?_); rfl) | refine lk_m ?_ rfl)) ?_
  refine ev_bipush (v := nI 6) dL_kept_128 rfl ?_
  refine ev_roW dL_kept_130 (a_nameOf (p := k) (w := 6) (v := 3) hO hI hT hk (by decide) (hs)) lk_L_108 ⟨Nat.le_of_ble_eq_true rfl, Nat.le_of_ble_eq_true rfl⟩ rfl (Nat.le_of_ble_eq_true rfl) ⟨by first | exact Nat.le_of_ble_eq_true rfl | omega, by first | exact Nat.le_of_ble_eq_true rfl | omega⟩ (fun n_130 => ?_)
  refine ev_ldc2 (v := lN 4) dL_kept_133 wq_L_157 ?_
  refine ev_lcN_ne (tgt := 153) dL_kept_136 dL_kept_137 (by decide) (by first | omega | exact Nat.lt_trans (hB _ _) (by decide) | exact hB _ _) (by first | omega | exact Nat.lt_trans (hB _ _) (by decide) | exact hB _ _) (fun c_136 => ?_) (fun c_136 => absurd c_136 (by omega))
  refine ev_aload_n (i := 0) dL_kept_153 rfl (by repeat (first | with_reducible exact lk_h | ((with_reducible refine lk_e ?_); rfl) | refine lk_m ?_ rfl)) ?_
  refine ev_iload (i := 14) dL_kept_154 (by repeat (first | with_reducible exact lk_h | ((with_reducible refine lk_e ?_); rfl) | refine lk_m ?_ rfl)) ?_
  refine ev_bipush (v := nI 6) dL_kept_156 rfl ?_
  refine ev_roW dL_kept_158 (a_nameOf (p := k) (w := 6) (v := 3) hO hI hT hk (by decide) (hs)) lk_L_108 ⟨Nat.le_of_ble_eq_true rfl, Nat.le_of_ble_eq_true rfl⟩ rfl (Nat.le_of_ble_eq_true rfl) ⟨by first | exact Nat.le_of_ble_eq_true rfl | omega, by first | exact Nat.le_of_ble_eq_true rfl | omega⟩ (fun n_158 => ?_)
  refine ev_lconst (v := lN 0) dL_kept_161 rfl ?_
  refine ev_lcN_ne (tgt := 179) dL_kept_162 dL_kept_163 (by decide) (by first | omega | exact Nat.lt_trans (hB _ _) (by decide) | exact hB _ _) (by first | omega | exact Nat.lt_trans (hB _ _) (by decide) | exact hB _ _) (fun c_162 => ?_) (fun c_162 => absurd c_162 (by omega))
  refine ev_aload_n (i := 0) dL_kept_179 rfl (by repeat (first | with_reducible exact lk_h | ((with_reducible refine lk_e ?_); rfl) | refine lk_m ?_ rfl)) ?_
  refine ev_iload (i := 14) dL_kept_180 (by repeat (first | with_reducible exact lk_h | ((with_reducible refine lk_e ?_); rfl) | refine lk_m ?_ rfl)) ?_
  refine ev_roW dL_kept_182 (a_endsIn hO hI hT hk) lk_L_136 ⟨Nat.le_of_ble_eq_true rfl, Nat.le_of_ble_eq_true rfl⟩ rfl (Nat.le_of_ble_eq_true rfl) ⟨by first | exact Nat.le_of_ble_eq_true rfl | omega, by first | exact Nat.le_of_ble_eq_true rfl | omega⟩ (fun n_182 => ?_)
  refine ev_lconst (v := lN 0) dL_kept_185 rfl ?_
  refine ev_lcN_ne (tgt := 194) dL_kept_186 dL_kept_187 (by decide) (by first | omega | exact Nat.lt_trans (hB _ _) (by decide) | exact hB _ _) (by first | omega | exact Nat.lt_trans (hB _ _) (by decide) | exact hB _ _) (fun c_186 => absurd c_186 (by omega)) (fun c_186 => ?_)
  refine ev_iconst (v := nI 1) dL_kept_190 rfl ?_
  refine ev_goto (tgt := 195) dL_kept_191 (by decide) ?_
  refine ev_iload (i := 15) dL_kept_195 (by repeat (first | with_reducible exact lk_h | ((with_reducible refine lk_e ?_); rfl) | refine lk_m ?_ rfl)) ?_
  refine ev_if_neN (tgt := 204) dL_kept_197 (by decide) (by decide) (fun c => absurd c (by decide)) (fun _ => ?_)
  refine ev_iconst (v := nI 1) dL_kept_200 rfl ?_
  refine ev_goto (tgt := 205) dL_kept_201 (by decide) ?_
  refine ev_icS_ne (tgt := 250) dL_kept_205 (by decide) (by rfl) ?_
  refine ev_aload_n (i := 0) dL_kept_208 rfl (by repeat (first | with_reducible exact lk_h | ((with_reducible refine lk_e ?_); rfl) | refine lk_m ?_ rfl)) ?_
  refine ev_iload (i := 14) dL_kept_209 (by repeat (first | with_reducible exact lk_h | ((with_reducible refine lk_e ?_); rfl) | refine lk_m ?_ rfl)) ?_
  refine ev_aload_n (i := 0) dL_kept_211 rfl (by repeat (first | with_reducible exact lk_h | ((with_reducible refine lk_e ?_); rfl) | refine lk_m ?_ rfl)) ?_
  refine ev_iload (i := 14) dL_kept_212 (by repeat (first | with_reducible exact lk_h | ((with_reducible refine lk_e ?_); rfl) | refine lk_m ?_ rfl)) ?_
  refine ev_iconst (v := nI 0) dL_kept_214 rfl ?_
  refine ev_roW dL_kept_215 (a_nameOf (p := k) (w := 0) (v := σ 6 k) hO hI hT hk (by decide) (rfl)) lk_L_108 ⟨Nat.le_of_ble_eq_true rfl, Nat.le_of_ble_eq_true rfl⟩ rfl (Nat.le_of_ble_eq_true rfl) ⟨by first | exact Nat.le_of_ble_eq_true rfl | omega, by first | exact Nat.le_of_ble_eq_true rfl | omega⟩ (fun n_215 => ?_)
  refine ev_l2i dL_kept_218 (lN_i _) ?_
  refine ev_roW dL_kept_219 (a_letterN hO hI hT hk (by first | exact hB _ _ | omega) (if_neg (Nat.lt_irrefl _))) lk_L_114 ⟨Nat.le_of_ble_eq_true rfl, Nat.le_of_ble_eq_true rfl⟩ rfl (Nat.le_of_ble_eq_true rfl) ⟨by first | exact Nat.le_of_ble_eq_true rfl | omega, by first | exact Nat.le_of_ble_eq_true rfl | omega⟩ (fun n_219 => ?_)
  refine ev_ldc2 dL_kept_222 wq_L_159 ?_
  refine ev_lcS_ne (tgt := 250) dL_kept_225 dL_kept_226 (by decide) (by rfl) ?_
  refine ev_aload_n (i := 0) dL_kept_229 rfl (by repeat (first | with_reducible exact lk_h | ((with_reducible refine lk_e ?_); rfl) | refine lk_m ?_ rfl)) ?_
  refine ev_iload (i := 14) dL_kept_230 (by repeat (first | with_reducible exact lk_h | ((with_reducible refine lk_e ?_); rfl) | refine lk_m ?_ rfl)) ?_
  refine ev_iconst (v := nI 0) dL_kept_232 rfl ?_
  refine ev_roW dL_kept_233 (a_letterS hO hI hT hk (by decide) (if_pos (by omega))) lk_L_114 ⟨Nat.le_of_ble_eq_true rfl, Nat.le_of_ble_eq_true rfl⟩ rfl (Nat.le_of_ble_eq_true rfl) ⟨by first | exact Nat.le_of_ble_eq_true rfl | omega, by first | exact Nat.le_of_ble_eq_true rfl | omega⟩ (fun n_233 => ?_)
  refine ev_lconst (v := lN 0) dL_kept_236 rfl ?_
  refine ev_ldc2 (v := lN 25) dL_kept_237 wq_L_161 ?_
  refine ev_roN dL_kept_240 (c_L_in (lo := 0) (hi := 25) (by omega) (by omega) (by omega) (by omega)) lk_L_163 ⟨Nat.le_of_ble_eq_true rfl, Nat.le_of_ble_eq_true rfl⟩ rfl (Nat.le_of_ble_eq_true rfl) ⟨by first | exact Nat.le_of_ble_eq_true rfl | omega, by first | exact Nat.le_of_ble_eq_true rfl | omega⟩ (fun n_240 => ?_)
  refine ev_if_eqN (tgt := 250) dL_kept_243 (by decide) (by decide) (fun c => absurd c (by decide)) (fun _ => ?_)
  refine ev_iconst (v := nI 1) dL_kept_246 rfl ?_
  refine ev_goto (tgt := 251) dL_kept_247 (by decide) ?_
  refine ev_istore_n (i := 2) dL_kept_251 rfl (Nat.le_of_ble_eq_true rfl) ?_
  refine ev_iload_n (i := 2) dL_kept_252 rfl (by repeat (first | with_reducible exact lk_h | ((with_reducible refine lk_e ?_); rfl) | refine lk_m ?_ rfl)) ?_
  refine ev_if_eqN (tgt := 295) dL_kept_253 (by decide) (by decide) (fun c => absurd c (by decide)) (fun _ => ?_)
  refine ev_iload (i := 15) dL_kept_256 (by repeat (first | with_reducible exact lk_h | ((with_reducible refine lk_e ?_); rfl) | refine lk_m ?_ rfl)) ?_
  refine ev_if_eqN (tgt := 291) dL_kept_258 (by decide) (by decide) (fun _ => ?_) (fun c => absurd c (by decide))
  refine ev_iconst (v := nI 1) dL_kept_291 rfl ?_
  refine ev_goto (tgt := 296) dL_kept_292 (by decide) ?_
  refine ev_istore_n (i := 2) dL_kept_296 rfl (Nat.le_of_ble_eq_true rfl) ?_
  refine ev_iconst (v := nI 0) dL_kept_297 rfl ?_
  refine ev_istore (i := 18) dL_kept_298 (Nat.le_of_ble_eq_true rfl) ?_
  exact (kept_300_0 hO hI hT hk K _ 0 (Nat.zero_le _)).sub1 ⟨(by repeat (first | with_reducible exact lk_h | ((with_reducible refine lk_e ?_); rfl) | refine lk_m ?_ rfl)), (by repeat (first | with_reducible exact lk_h | ((with_reducible refine lk_e ?_); rfl) | refine lk_m ?_ rfl)), (by repeat (first | with_reducible exact lk_h | ((with_reducible refine lk_e ?_); rfl) | refine lk_m ?_ rfl)), (by repeat (first | with_reducible exact lk_h | ((with_reducible refine lk_e ?_); rfl) | refine lk_m ?_ rfl)), (by repeat (first | with_reducible exact lk_h | ((with_reducible refine lk_e ?_); rfl) | refine lk_m ?_ rfl)), (by repeat (first | with_reducible exact lk_h | ((with_reducible refine lk_e ?_); rfl) | refine lk_m ?_ rfl)), (by repeat (first | with_reducible exact lk_h | ((with_reducible refine lk_e ?_); rfl) | refine lk_m ?_ rfl)), (by repeat (first | with_reducible exact lk_h | ((with_reducible refine lk_e ?_); rfl) | refine lk_m ?_ rfl)), (by repeat (first | with_reducible exact lk_h | ((with_reducible refine lk_e ?_); rfl) | refine lk_m ?_ rfl)), (by repeat (first | with_reducible exact lk_h | ((with_reducible refine lk_e ?_); rfl) | refine lk_m ?_ rfl)), (by repeat (first | with_reducible exact lk_h | ((with_reducible refine lk_e ?_); rfl) | refine lk_m ?_ rfl)), (by repeat (first | with_reducible exact lk_h | ((with_reducible refine lk_e ?_); rfl) | refine lk_m ?_ rfl)), (by repeat (first | with_reducible exact lk_h | ((with_reducible refine lk_e ?_); rfl) | refine lk_m ?_ rfl)), (by repeat (first | with_reducible exact lk_h | ((with_reducible refine lk_e ?_); rfl) | refine lk_m ?_ rfl)), trivial⟩ (eff_id rfl)
set_option maxHeartbeats 4000000 in
set_option maxRecDepth 20000 in
theorem kept_39_4 {h : eH} {b ℓ c T : Nat} {σ : St} {x : Nat → Nat} {τ τs : Nat → St} {us : Nat → Nat} (hO : eNB h b σ x ℓ c τ us τs) (hI : gI σ T) (hT : T < 2 ^ 20) {k : Nat} (hk : k < σ 0 1) (hs : σ 12 k = 4) (K : ∀ n_0 : Nat, eV mL_kept 29 [(0, .ref b), (1, .int (nI (σ 0 1))), (2, .int (nI (1))), (3, .long (lN (sSum (σ 10) (k + 1)))), (5, .long (lN (0))), (7, .long (lN (0))), (9, .long (lN (0))), (11, .long (lN (sSum (σ 13) (k + 1)))), (13, .int (nI (cnt (sAlive σ) k + 0))), (14, .int (nI (k + 1)))] [] (h, n_0, 0, 0) (.inl (some (.int (nI 1))), (· = h), none) 0 0) : ∀ n_0 : Nat, eV mL_kept 39 [(0, .ref b), (1, .int (nI (σ 0 1))), (2, .int (nI (1))), (3, .long (lN (sSum (σ 10) k))), (5, .long (lN (0))), (7, .long (lN (0))), (9, .long (lN (0))), (11, .long (lN (sSum (σ 13) k))), (13, .int (nI (cnt (sAlive σ) k))), (14, .int (nI (k)))] [] (h, n_0, 0, 0) (.inl (some (.int (nI 1))), (· = h), none) 0 0 := by
  have hK := hI.ok hT
  have hB := hK.1
  have hP := hK.2.1
  have hN := hK.2.2.1
  have hA := sAl_b hI hT
  intro n_0
  have hW := hI.1.ho k hk
  obtain ⟨hne, h1, h2⟩ := hI.2.2.1 k hk
  have hl := (hI.1.2.2.2.1 k).2.2.2.2.2.1
  have hm1 := (hI.1.2.2.2.2.1 k hk).2.2.1
  have hm4 := (hI.1.2.2.2.1 k).1
  have hc7 := (hI.1.2.2.2.2.1 k hk).2.2.2
  have hmc : sCode (σ 6 k) (σ 7 k) = true := decide_eq_true ⟨hm1, hm4, hc7⟩
  have hb1 := sLet_lt (σ 6 k) (σ 7 k) 0
  have hL9 := sLeft_b hI hk
  have ha : sAlive σ k = false := decide_eq_false (by omega)
  have hL : sLeft σ k = 0 := sLeft_0.mpr ha
  have h13 := h1 (Or.inr hs)
  refine ev_aload_n (i := 0) dL_kept_39 rfl (by repeat (first | with_reducible exact lk_h | ((with_reducible refine lk_e ?_); rfl) | refine lk_m ?_ rfl)) ?_
  refine ev_iload (i := 14) dL_kept_40 (by repeat (first | with_reducible exact lk_h | ((with_reducible refine lk_e ?_); rfl) | refine lk_m ?_ rfl)) ?_
  refine ev_bipush (v := nI 6) dL_kept_42 rfl ?_
  refine ev_roW dL_kept_44 (a_nameOf (p := k) (w := 6) (v := 4) hO hI hT hk (by decide) (hs)) lk_L_108 ⟨Nat.le_of_ble_eq_true rfl, Nat.le_of_ble_eq_true rfl⟩ rfl (Nat.le_of_ble_eq_true rfl) ⟨by first | exact Nat.le_of_ble_eq_true rfl | omega, by first | exact Nat.le_of_ble_eq_true rfl | omega⟩ (fun n_44 => ?_)
  refine ev_ldc2 (v := lN 2) dL_kept_47 wq_L_155 ?_
  refine ev_lcN_ge (tgt := 58) dL_kept_50 dL_kept_51 (by decide) (by first | omega | exact Nat.lt_trans (hB _ _) (by decide) | exact hB _ _) (by first | omega | exact Nat.lt_trans (hB _ _) (by decide) | exact hB _ _) (fun c_50 => ?_) (fun c_50 => absurd c_50 (by omega))
  refine ev_iconst (v := nI 0) dL_kept_58 rfl ?_
  refine ev_istore (i := 15) dL_kept_59 (Nat.le_of_ble_eq_true rfl) ?_
  refine ev_aload_n (i := 0) dL_kept_61 rfl (by repeat (first | with_reducible exact lk_h | ((with_reducible refine lk_e ?_); rfl) | refine lk_m ?_ rfl)) ?_
  refine ev_iload (i := 14) dL_kept_62 (by repeat (first | with_reducible exact lk_h | ((with_reducible refine lk_e ?_); rfl) | refine lk_m ?_ rfl)) ?_
  refine ev_iconst (v := nI 3) dL_kept_64 rfl ?_
  refine ev_roW dL_kept_65 (a_nameOf (p := k) (w := 3) (v := σ 9 k) hO hI hT hk (by decide) (rfl)) lk_L_108 ⟨Nat.le_of_ble_eq_true rfl, Nat.le_of_ble_eq_true rfl⟩ rfl (Nat.le_of_ble_eq_true rfl) ⟨by first | exact Nat.le_of_ble_eq_true rfl | omega, by first | exact Nat.le_of_ble_eq_true rfl | omega⟩ (fun n_65 => ?_)
  refine ev_l2i dL_kept_68 (lN_i _) ?_
  refine ev_istore (i := 16) dL_kept_69 (Nat.le_of_ble_eq_true rfl) ?_
  refine ev_aload_n (i := 0) dL_kept_71 rfl (by repeat (first | with_reducible exact lk_h | ((with_reducible refine lk_e ?_); rfl) | refine lk_m ?_ rfl)) ?_
  refine ev_iload (i := 16) dL_kept_72 (by repeat (first | with_reducible exact lk_h | ((with_reducible refine lk_e ?_); rfl) | refine lk_m ?_ rfl)) ?_
  refine ev_iconst (v := nI 2) dL_kept_74 rfl ?_
  refine ev_roW dL_kept_75 (a_personOf (p := σ 9 k) (w := 2) (v := σ 3 (σ 9 k)) hO hI hT hW (by decide) (rfl)) lk_L_105 ⟨Nat.le_of_ble_eq_true rfl, Nat.le_of_ble_eq_true rfl⟩ rfl (Nat.le_of_ble_eq_true rfl) ⟨by first | exact Nat.le_of_ble_eq_true rfl | omega, by first | exact Nat.le_of_ble_eq_true rfl | omega⟩ (fun n_75 => ?_)
  refine ev_l2i dL_kept_78 (lN_i _) ?_
  refine ev_istore (i := 17) dL_kept_79 (Nat.le_of_ble_eq_true rfl) ?_
  refine ev_aload_n (i := 0) dL_kept_81 rfl (by repeat (first | with_reducible exact lk_h | ((with_reducible refine lk_e ?_); rfl) | refine lk_m ?_ rfl)) ?_
  refine ev_iload (i := 14) dL_kept_82 (by repeat (first | with_reducible exact lk_h | ((with_reducible refine lk_e ?_); rfl) | refine lk_m ?_ rfl)) ?_
  refine ev_iconst (v := nI 2) dL_kept_84 rfl ?_
  refine ev_roW dL_kept_85 (a_nameOf (p := k) (w := 2) (v := σ 8 k) hO hI hT hk (by decide) (rfl)) lk_L_108 ⟨Nat.le_of_ble_eq_true rfl, Nat.le_of_ble_eq_true rfl⟩ rfl (Nat.le_of_ble_eq_true rfl) ⟨by first | exact Nat.le_of_ble_eq_true rfl | omega, by first | exact Nat.le_of_ble_eq_true rfl | omega⟩ (fun n_85 => ?_)
  refine ev_iload (i := 16) dL_kept_88 (by repeat (first | with_reducible exact lk_h | ((with_reducible refine lk_e ?_); rfl) | refine lk_m ?_ rfl)) ?_
  refine ev_i2l dL_kept_90 (nI_l (by first | omega | exact Nat.lt_trans (hB _ _) (by decide) | exact hB _ _)) ?_
  refine ev_lcN_eq (tgt := 250) dL_kept_91 dL_kept_92 (by decide) (by first | omega | exact Nat.lt_trans (hB _ _) (by decide) | exact hB _ _) (by first | omega | exact Nat.lt_trans (hB _ _) (by decide) | exact hB _ _) (fun c_91 => absurd c_91 (by exact hne)) (fun c_91 => ?_)
  refine ev_aload_n (i := 0) dL_kept_95 rfl (by repeat (first | with_reducible exact lk_h | ((with_reducible refine lk_e ?_); rfl) | refine lk_m ?_ rfl)) ?_
  refine ev_iload (i := 14) dL_kept_96 (by repeat (first | with_reducible exact lk_h | ((with_reducible refine lk_e ?_); rfl) | refine lk_m ?_ rfl)) ?_
  refine ev_iconst (v := nI 5) dL_kept_98 rfl ?_
  refine ev_roW dL_kept_99 (a_nameOf (p := k) (w := 5) (v := σ 11 k) hO hI hT hk (by decide) (rfl)) lk_L_108 ⟨Nat.le_of_ble_eq_true rfl, Nat.le_of_ble_eq_true rfl⟩ rfl (Nat.le_of_ble_eq_true rfl) ⟨by first | exact Nat.le_of_ble_eq_true rfl | omega, by first | exact Nat.le_of_ble_eq_true rfl | omega⟩ (fun n_99 => ?_)
  refine ev_aload_n (i := 0) dL_kept_102 rfl (by repeat (first | with_reducible exact lk_h | ((with_reducible refine lk_e ?_); rfl) | refine lk_m ?_ rfl)) ?_
  refine ev_bipush (v := nI 7) dL_kept_103 rfl ?_
  refine ev_roW dL_kept_105 (a_about (w := 7) (v := σ 0 2) hO hI hT (by first | decide | omega) (rfl)) lk_L_100 ⟨Nat.le_of_ble_eq_true rfl, Nat.le_of_ble_eq_true rfl⟩ rfl (Nat.le_of_ble_eq_true rfl) ⟨by first | exact Nat.le_of_ble_eq_true rfl | omega, by first | exact Nat.le_of_ble_eq_true rfl | omega⟩ (fun n_105 => ?_)
  refine ev_lcN_gt (tgt := 250) dL_kept_108 dL_kept_109 (by decide) (by first | omega | exact Nat.lt_trans (hB _ _) (by decide) | exact hB _ _) (by first | omega | exact Nat.lt_trans (hB _ _) (by decide) | exact hB _ _) (fun c_108 => absurd c_108 (by omega)) (fun c_108 => ?_)
  refine ev_aload_n (i := 0) dL_kept_112 rfl (by repeat (first | with_reducible exact lk_h | ((with_reducible refine lk_e ?_); rfl) | refine lk_m ?_ rfl)) ?_
  refine ev_iload (i := 14) dL_kept_113 (by repeat (first | with_reducible exact lk_h | ((with_reducible refine lk_e ?_); rfl) | refine lk_m ?_ rfl)) ?_
  refine ev_bipush (v := nI 6) dL_kept_115 rfl ?_
  refine ev_roW dL_kept_117 (a_nameOf (p := k) (w := 6) (v := 4) hO hI hT hk (by decide) (hs)) lk_L_108 ⟨Nat.le_of_ble_eq_true rfl, Nat.le_of_ble_eq_true rfl⟩ rfl (Nat.le_of_ble_eq_true rfl) ⟨by first | exact Nat.le_of_ble_eq_true rfl | omega, by first | exact Nat.le_of_ble_eq_true rfl | omega⟩ (fun n_117 => ?_)
  refine ev_lconst (v := lN 1) dL_kept_120 rfl ?_
  refine ev_lcN_eq (tgt := 140) dL_kept_121 dL_kept_122 (by decide) (by first | omega | exact Nat.lt_trans (hB _ _) (by decide) | exact hB _ _) (by first | omega | exact Nat.lt_trans (hB _ _) (by decide) | exact hB _ _) (fun c_121 => absurd c_121 (by omega)) (fun c_121 => ?_)
  refine ev_aload_n (i := 0) dL_kept_125 rfl (by repeat (first | with_reducible exact lk_h | ((with_reducible refine lk_e ?_); rfl) | refine lk_m ?_ rfl)) ?_
  refine ev_iload (i := 14) dL_kept_126 (by repeat (first | with_reducible exact lk_h | ((with_reducible refine lk_e ?_); rfl) | refine lk_m ?_ rfl)) ?_
  refine ev_bipush (v := nI 6) dL_kept_128 rfl ?_
  refine ev_roW dL_kept_130 (a_nameOf (p := k) (w := 6) (v := 4) hO hI hT hk (by decide) (hs)) lk_L_108 ⟨Nat.le_of_ble_eq_true rfl, Nat.le_of_ble_eq_true rfl⟩ rfl (Nat.le_of_ble_eq_true rfl) ⟨by first | exact Nat.le_of_ble_eq_true rfl | omega, by first | exact Nat.le_of_ble_eq_true rfl | omega⟩ (fun n_130 => ?_)
  refine ev_ldc2 (v := lN 4) dL_kept_133 wq_L_157 ?_
  refine ev_lcN_ne (tgt := 153) dL_kept_136 dL_kept_137 (by decide) (by first | omega | exact Nat.lt_trans (hB _ _) (by decide) | exact hB _ _) (by first | omega | exact Nat.lt_trans (hB _ _) (by decide) | exact hB _ _) (fun c_136 => absurd c_136 (by omega)) (fun c_136 => ?_)
  refine ev_aload_n (i := 0) dL_kept_140 rfl (by repeat (first | with_reducible exact lk_h | ((with_reducible refine lk_e ?_); rfl) | refine lk_m ?_ rfl)) ?_
  refine ev_iload (i := 14) dL_kept_141 (by repeat (first | with_reducible exact lk_h | ((with_reducible refine lk_e ?_); rfl) | refine lk_m ?_ rfl)) ?_
  refine ev_bipush (v := nI 7) dL_kept_143 rfl ?_
  refine ev_roW dL_kept_145 (a_nameOf (p := k) (w := 7) (v := 1) hO hI hT hk (by decide) (h13)) lk_L_108 ⟨Nat.le_of_ble_eq_true rfl, Nat.le_of_ble_eq_true rfl⟩ rfl (Nat.le_of_ble_eq_true rfl) ⟨by first | exact Nat.le_of_ble_eq_true rfl | omega, by first | exact Nat.le_of_ble_eq_true rfl | omega⟩ (fun n_145 => ?_)
  refine ev_lconst (v := lN 1) dL_kept_148 rfl ?_
  refine ev_lcS_ne (tgt := 250) dL_kept_149 dL_kept_150 (by decide) (by rfl) ?_
  refine ev_aload_n (i := 0) dL_kept_153 rfl (by repeat (first | with_reducible exact lk_h | ((with_reducible refine lk_e ?_); rfl) | refine lk_m ?_ rfl)) ?_
  refine ev_iload (i := 14) dL_kept_154 (by repeat (first | with_reducible exact lk_h | ((with_reducible refine lk_e ?_); rfl) | refine lk_m ?_ rfl)) ?_
  refine ev_bipush (v := nI 6) dL_kept_156 rfl ?_
  refine ev_roW dL_kept_158 (a_nameOf (p := k) (w := 6) (v := 4) hO hI hT hk (by decide) (hs)) lk_L_108 ⟨Nat.le_of_ble_eq_true rfl, Nat.le_of_ble_eq_true rfl⟩ rfl (Nat.le_of_ble_eq_true rfl) ⟨by first | exact Nat.le_of_ble_eq_true rfl | omega, by first | exact Nat.le_of_ble_eq_true rfl | omega⟩ (fun n_158 => ?_)
  refine ev_lconst (v := lN 0) dL_kept_161 rfl ?_
  refine ev_lcN_ne (tgt := 179) dL_kept_162 dL_kept_163 (by decide) (by first | omega | exact Nat.lt_trans (hB _ _) (by decide) | exact hB _ _) (by first | omega | exact Nat.lt_trans (hB _ _) (by decide) | exact hB _ _) (fun c_162 => ?_) (fun c_162 => absurd c_162 (by omega))
  refine ev_aload_n (i := 0) dL_kept_179 rfl (by repeat (first | with_reducible exact lk_h | ((with_reducible refine lk_e ?_); rfl) | refine lk_m ?_ rfl)) ?_
  refine ev_iload (i := 14) dL_kept_180 (by repeat (first | with_reducible exact lk_h | ((with_reducible refine lk_e ?_); rfl) | refine lk_m ?_ rfl)) ?_
  refine ev_roW dL_kept_182 (a_endsIn hO hI hT hk) lk_L_136 ⟨Nat.le_of_ble_eq_true rfl, Nat.le_of_ble_eq_true rfl⟩ rfl (Nat.le_of_ble_eq_true rfl) ⟨by first | exact Nat.le_of_ble_eq_true rfl | omega, by first | exact Nat.le_of_ble_eq_true rfl | omega⟩ (fun n_182 => ?_)
  refine ev_lconst (v := lN 0) dL_kept_185 rfl ?_
  refine ev_lcN_ne (tgt := 194) dL_kept_186 dL_kept_187 (by decide) (by first | omega | exact Nat.lt_trans (hB _ _) (by decide) | exact hB _ _) (by first | omega | exact Nat.lt_trans (hB _ _) (by decide) | exact hB _ _) (fun c_186 => absurd c_186 (by omega)) (fun c_186 => ?_)
  refine ev_iconst (v := nI 1) dL_kept_190 rfl ?_
  refine ev_goto (tgt := 195) dL_kept_191 (by decide) ?_
  refine ev_iload (i := 15) dL_kept_195 (by repeat (first | with_reducible exact lk_h | ((with_reducible refine lk_e ?_); rfl) | refine lk_m ?_ rfl)) ?_
  refine ev_if_neN (tgt := 204) dL_kept_197 (by decide) (by decide) (fun c => absurd c (by decide)) (fun _ => ?_)
  refine ev_iconst (v := nI 1) dL_kept_200 rfl ?_
  refine ev_goto (tgt := 205) dL_kept_201 (by decide) ?_
  refine ev_icS_ne (tgt := 250) dL_kept_205 (by decide) (by rfl) ?_
  refine ev_aload_n (i := 0) dL_kept_208 rfl (by repeat (first | with_reducible exact lk_h | ((with_reducible refine lk_e ?_); rfl) | refine lk_m ?_ rfl)) ?_
  refine ev_iload (i := 14) dL_kept_209 (by repeat (first | with_reducible exact lk_h | ((with_reducible refine lk_e ?_); rfl) | refine lk_m ?_ rfl)) ?_
  refine ev_aload_n (i := 0) dL_kept_211 rfl (by repeat (first | with_reducible exact lk_h | ((with_reducible refine lk_e ?_); rfl) | refine lk_m ?_ rfl)) ?_
  refine ev_iload (i := 14) dL_kept_212 (by repeat (first | with_reducible exact lk_h | ((with_reducible refine lk_e ?_); rfl) | refine lk_m ?_ rfl)) ?_
  refine ev_iconst (v := nI 0) dL_kept_214 rfl ?_
  refine ev_roW dL_kept_215 (a_nameOf (p := k) (w := 0) (v := σ 6 k) hO hI hT hk (by decide) (rfl)) lk_L_108 ⟨Nat.le_of_ble_eq_true rfl, Nat.le_of_ble_eq_true rfl⟩ rfl (Nat.le_of_ble_eq_true rfl) ⟨by first | exact Nat.le_of_ble_eq_true rfl | omega, by first | exact Nat.le_of_ble_eq_true rfl | omega⟩ (fun n_215 => ?_)
  refine ev_l2i dL_kept_218 (lN_i _) ?_
  refine ev_roW dL_kept_219 (a_letterN hO hI hT hk (by first | exact hB _ _ | omega) (if_neg (Nat.lt_irrefl _))) lk_L_114 ⟨Nat.le_of_ble_eq_true rfl, Nat.le_of_ble_eq_true rfl⟩ rfl (Nat.le_of_ble_eq_true rfl) ⟨by first | exact Nat.le_of_ble_eq_true rfl | omega, by first | exact Nat.le_of_ble_eq_true rfl | omega⟩ (fun n_219 => ?_)
  refine ev_ldc2 dL_kept_222 wq_L_159 ?_
  refine ev_lcS_ne (tgt := 250) dL_kept_225 dL_kept_226 (by decide) (by rfl) ?_
  refine ev_aload_n (i := 0) dL_kept_229 rfl (by repeat (first | with_reducible exact lk_h | ((with_reducible refine lk_e ?_); rfl) | refine lk_m ?_ rfl)) ?_
  refine ev_iload (i := 14) dL_kept_230 (by repeat (first | with_reducible exact lk_h | ((with_reducible refine lk_e ?_); rfl) | refine lk_m ?_ rfl)) ?_
  refine ev_iconst (v := nI 0) dL_kept_232 rfl ?_
  refine ev_roW dL_kept_233 (a_letterS hO hI hT hk (by decide) (if_pos (by omega))) lk_L_114 ⟨Nat.le_of_ble_eq_true rfl, Nat.le_of_ble_eq_true rfl⟩ rfl (Nat.le_of_ble_eq_true rfl) ⟨by first | exact Nat.le_of_ble_eq_true rfl | omega, by first | exact Nat.le_of_ble_eq_true rfl | omega⟩ (fun n_233 => ?_)
  refine ev_lconst (v := lN 0) dL_kept_236 rfl ?_
  refine ev_ldc2 (v := lN 25) dL_kept_237 wq_L_161 ?_
  refine ev_roN dL_kept_240 (c_L_in (lo := 0) (hi := 25) (by omega) (by omega) (by omega) (by omega)) lk_L_163 ⟨Nat.le_of_ble_eq_true rfl, Nat.le_of_ble_eq_true rfl⟩ rfl (Nat.le_of_ble_eq_true rfl) ⟨by first | exact Nat.le_of_ble_eq_true rfl | omega, by first | exact Nat.le_of_ble_eq_true rfl | omega⟩ (fun n_240 => ?_)
  refine ev_if_eqN (tgt := 250) dL_kept_243 (by decide) (by decide) (fun c => absurd c (by decide)) (fun _ => ?_)
  refine ev_iconst (v := nI 1) dL_kept_246 rfl ?_
  refine ev_goto (tgt := 251) dL_kept_247 (by decide) ?_
  refine ev_istore_n (i := 2) dL_kept_251 rfl (Nat.le_of_ble_eq_true rfl) ?_
  refine ev_iload_n (i := 2) dL_kept_252 rfl (by repeat (first | with_reducible exact lk_h | ((with_reducible refine lk_e ?_); rfl) | refine lk_m ?_ rfl)) ?_
  refine ev_if_eqN (tgt := 295) dL_kept_253 (by decide) (by decide) (fun c => absurd c (by decide)) (fun _ => ?_)
  refine ev_iload (i := 15) dL_kept_256 (by repeat (first | with_reducible exact lk_h | ((with_reducible refine lk_e ?_); rfl) | refine lk_m ?_ rfl)) ?_
  refine ev_if_eqN (tgt := 291) dL_kept_258 (by decide) (by decide) (fun _ => ?_) (fun c => absurd c (by decide))
  refine ev_iconst (v := nI 1) dL_kept_291 rfl ?_
  refine ev_goto (tgt := 296) dL_kept_292 (by decide) ?_
  refine ev_istore_n (i := 2) dL_kept_296 rfl (Nat.le_of_ble_eq_true rfl) ?_
  refine ev_iconst (v := nI 0) dL_kept_297 rfl ?_
  refine ev_istore (i := 18) dL_kept_298 (Nat.le_of_ble_eq_true rfl) ?_
  exact (kept_300_0 hO hI hT hk K _ 0 (Nat.zero_le _)).sub1 ⟨(by repeat (first | with_reducible exact lk_h | ((with_reducible refine lk_e ?_); rfl) | refine lk_m ?_ rfl)), (by repeat (first | with_reducible exact lk_h | ((with_reducible refine lk_e ?_); rfl) | refine lk_m ?_ rfl)), (by repeat (first | with_reducible exact lk_h | ((with_reducible refine lk_e ?_); rfl) | refine lk_m ?_ rfl)), (by repeat (first | with_reducible exact lk_h | ((with_reducible refine lk_e ?_); rfl) | refine lk_m ?_ rfl)), (by repeat (first | with_reducible exact lk_h | ((with_reducible refine lk_e ?_); rfl) | refine lk_m ?_ rfl)), (by repeat (first | with_reducible exact lk_h | ((with_reducible refine lk_e ?_); rfl) | refine lk_m ?_ rfl)), (by repeat (first | with_reducible exact lk_h | ((with_reducible refine lk_e ?_); rfl) | refine lk_m ?_ rfl)), (by repeat (first | with_reducible exact lk_h | ((with_reducible refine lk_e ?_); rfl) | refine lk_m ?_ rfl)), (by repeat (first | with_reducible exact lk_h | ((with_reducible refine lk_e ?_); rfl) | refine lk_m ?_ rfl)), (by repeat (first | with_reducible exact lk_h | ((with_reducible refine lk_e ?_); rfl) | refine lk_m ?_ rfl)), (by repeat (first | with_reducible exact lk_h | ((with_reducible refine lk_e ?_); rfl) | refine lk_m ?_ rfl)), (by repeat (first | with_reducible exact lk_h | ((with_reducible refine lk_e ?_); rfl) | refine lk_m ?_ rfl)), (by repeat (first | with_reducible exact lk_h | ((with_reducible refine lk_e ?_); rfl) | refine lk_m ?_ rfl)), (by repeat (first | with_reducible exact lk_h | ((with_reducible refine lk_e ?_); rfl) | refine lk_m ?_ rfl)), trivial⟩ (eff_id rfl)
theorem kept_39 {h : eH} {b ℓ c T : Nat} {σ : St} {x : Nat → Nat} {τ τs : Nat → St} {us : Nat → Nat} (hO : eNB h b σ x ℓ c τ us τs) (hI : gI σ T) (hT : T < 2 ^ 20) {k : Nat} (hk : k < σ 0 1) (K : ∀ n_0 : Nat, eV mL_kept 29 [(0, .ref b), (1, .int (nI (σ 0 1))), (2, .int (nI (1))), (3, .long (lN (sSum (σ 10) (k + 1)))), (5, .long (lN (0))), (7, .long (lN (0))), (9, .long (lN (0))), (11, .long (lN (sSum (σ 13) (k + 1)))), (13, .int (nI (cnt (sAlive σ) (k + 1)))), (14, .int (nI (k + 1)))] [] (h, n_0, 0, 0) (.inl (some (.int (nI 1))), (· = h), none) 0 0) : ∀ n_0 : Nat, eV mL_kept 39 [(0, .ref b), (1, .int (nI (σ 0 1))), (2, .int (nI (1))), (3, .long (lN (sSum (σ 10) k))), (5, .long (lN (0))), (7, .long (lN (0))), (9, .long (lN (0))), (11, .long (lN (sSum (σ 13) k))), (13, .int (nI (cnt (sAlive σ) k))), (14, .int (nI (k)))] [] (h, n_0, 0, 0) (.inl (some (.int (nI 1))), (· = h), none) 0 0 := by
  intro n_0
  have h4 := (hI.1.2.2.2.1 k).2.2.2.2.2.2.1
  rcases (by omega : σ 12 k = 0 ∨ σ 12 k = 1 ∨ σ 12 k = 2 ∨ σ 12 k = 3 ∨ σ 12 k = 4) with hs | hs | hs | hs | hs
  · refine kept_39_0 hO hI hT hk hs (fun n_1 => ?_) n_0
    have e : cnt (sAlive σ) (k + 1) = cnt (sAlive σ) k + 1 := cnt_t (decide_eq_true (by omega))
    rw [← e]
    exact K n_1
  · refine kept_39_1 hO hI hT hk hs (fun n_1 => ?_) n_0
    have e : cnt (sAlive σ) (k + 1) = cnt (sAlive σ) k + 1 := cnt_t (decide_eq_true (by omega))
    rw [← e]
    exact K n_1
  · refine kept_39_2 hO hI hT hk hs (fun n_1 => ?_) n_0
    have e : cnt (sAlive σ) (k + 1) = cnt (sAlive σ) k + 0 := cnt_f (decide_eq_false (by omega))
    rw [← e]
    exact K n_1
  · refine kept_39_3 hO hI hT hk hs (fun n_1 => ?_) n_0
    have e : cnt (sAlive σ) (k + 1) = cnt (sAlive σ) k + 0 := cnt_f (decide_eq_false (by omega))
    rw [← e]
    exact K n_1
  · refine kept_39_4 hO hI hT hk hs (fun n_1 => ?_) n_0
    have e : cnt (sAlive σ) (k + 1) = cnt (sAlive σ) k + 0 := cnt_f (decide_eq_false (by omega))
    rw [← e]
    exact K n_1
set_option maxHeartbeats 4000000 in
set_option maxRecDepth 20000 in
theorem kept_29 {h : eH} {b ℓ c T : Nat} {σ : St} {x : Nat → Nat} {τ τs : Nat → St} {us : Nat → Nat} (hO : eNB h b σ x ℓ c τ us τs) (hI : gI σ T) (hT : T < 2 ^ 20) : ∀ (n_0 k : Nat), k ≤ σ 0 1 → eV mL_kept 29 [(0, .ref b), (1, .int (nI (σ 0 1))), (2, .int (nI (1))), (3, .long (lN (sSum (σ 10) k))), (5, .long (lN (0))), (7, .long (lN (0))), (9, .long (lN (0))), (11, .long (lN (sSum (σ 13) k))), (13, .int (nI (cnt (sAlive σ) k))), (14, .int (nI (k)))] [] (h, n_0, 0, 0) (.inl (some (.int (nI 1))), (· = h), none) 0 0 := by
  have hK := hI.ok hT
  have hB := hK.1
  have hP := hK.2.1
  have hN := hK.2.2.1
  have hA := sAl_b hI hT
  intro n_0 k hk
  have H_29 : ∀ (d_29 : Nat) (n_0 k : Nat), d_29 = σ 0 1 - k → (k ≤ σ 0 1) → eV mL_kept 29 [(0, .ref b), (1, .int (nI (σ 0 1))), (2, .int (nI (1))), (3, .long (lN (sSum (σ 10) k))), (5, .long (lN (0))), (7, .long (lN (0))), (9, .long (lN (0))), (11, .long (lN (sSum (σ 13) k))), (13, .int (nI (cnt (sAlive σ) k))), (14, .int (nI (k)))] [] (h, n_0, 0, 0) (.inl (some (.int (nI 1))), (· = h), none) 0 0 := by
    intro d_29
    induction d_29 using Nat.strongRecOn with
    | _ d_29 ih_29 =>
    intro n_0 k hd_29 hk
    refine ev_iload (i := 14) dL_kept_29 (by repeat (first | with_reducible exact lk_h | ((with_reducible refine lk_e ?_); rfl) | refine lk_m ?_ rfl)) ?_
    refine ev_iload_n (i := 1) dL_kept_31 rfl (by repeat (first | with_reducible exact lk_h | ((with_reducible refine lk_e ?_); rfl) | refine lk_m ?_ rfl)) ?_
    refine ev_icmp_geN (tgt := 455) dL_kept_32 (by decide) (by first | omega | exact Nat.lt_trans (hB _ _) (by decide) | exact hB _ _) (by first | omega | exact Nat.lt_trans (hB _ _) (by decide) | exact hB _ _) (fun c_32 => ?_) (fun c_32 => ?_)
    · have ek : k = σ 0 1 := by omega
      subst ek
      refine ev_lconst (v := lN 0) dL_kept_455 rfl ?_
      refine ev_lstore (i := 14) dL_kept_456 (Nat.le_of_ble_eq_true rfl) ?_
      refine ev_lconst (v := lN 0) dL_kept_458 rfl ?_
      refine ev_lstore (i := 16) dL_kept_459 (Nat.le_of_ble_eq_true rfl) ?_
      refine ev_lconst (v := lN 0) dL_kept_461 rfl ?_
      refine ev_lstore (i := 18) dL_kept_462 (Nat.le_of_ble_eq_true rfl) ?_
      refine ev_iconst (v := nI 0) dL_kept_464 rfl ?_
      refine ev_istore (i := 20) dL_kept_465 (Nat.le_of_ble_eq_true rfl) ?_
      exact (kept_467 hO hI hT _ 0 (Nat.zero_le _)).sub1 ⟨(by repeat (first | with_reducible exact lk_h | ((with_reducible refine lk_e ?_); rfl) | refine lk_m ?_ rfl)), (by repeat (first | with_reducible exact lk_h | ((with_reducible refine lk_e ?_); rfl) | refine lk_m ?_ rfl)), (by repeat (first | with_reducible exact lk_h | ((with_reducible refine lk_e ?_); rfl) | refine lk_m ?_ rfl)), (by repeat (first | with_reducible exact lk_h | ((with_reducible refine lk_e ?_); rfl) | refine lk_m ?_ rfl)), (by repeat (first | with_reducible exact lk_h | ((with_reducible refine lk_e ?_); rfl) | refine lk_m ?_ rfl)), (by repeat (first | with_reducible exact lk_h | ((with_reducible refine lk_e ?_); rfl) | refine lk_m ?_ rfl)), (by repeat (first | with_reducible exact lk_h | ((with_reducible refine lk_e ?_); rfl) | refine lk_m ?_ rfl)), (by repeat (first | with_reducible exact lk_h | ((with_reducible refine lk_e ?_); rfl) | refine lk_m ?_ rfl)), (by repeat (first | with_reducible exact lk_h | ((with_reducible refine lk_e ?_); rfl) | refine lk_m ?_ rfl)), (by repeat (first | with_reducible exact lk_h | ((with_reducible refine lk_e ?_); rfl) | refine lk_m ?_ rfl)), (by repeat (first | with_reducible exact lk_h | ((with_reducible refine lk_e ?_); rfl) | refine lk_m ?_ rfl)), (by repeat (first | with_reducible exact lk_h | ((with_reducible refine lk_e ?_); rfl) | refine lk_m ?_ rfl)), (by repeat (first | with_reducible exact lk_h | ((with_reducible refine lk_e ?_); rfl) | refine lk_m ?_ rfl)), trivial⟩ (eff_id rfl)
    · refine ev_iload_n (i := 2) dL_kept_35 rfl (by repeat (first | with_reducible exact lk_h | ((with_reducible refine lk_e ?_); rfl) | refine lk_m ?_ rfl)) ?_
      refine ev_if_eqN (tgt := 455) dL_kept_36 (by decide) (by decide) (fun c => absurd c (by decide)) (fun _ => ?_)
      exact kept_39 hO hI hT c_32 (fun n_1 => ih_29 _ (by omega) n_1 (k + 1) rfl (by omega)) _
  exact (H_29 _ n_0 k rfl (by exact hk)).sub1 ⟨(by repeat (first | with_reducible exact lk_h | ((with_reducible refine lk_e ?_); rfl) | refine lk_m ?_ rfl)), (by repeat (first | with_reducible exact lk_h | ((with_reducible refine lk_e ?_); rfl) | refine lk_m ?_ rfl)), (by repeat (first | with_reducible exact lk_h | ((with_reducible refine lk_e ?_); rfl) | refine lk_m ?_ rfl)), (by repeat (first | with_reducible exact lk_h | ((with_reducible refine lk_e ?_); rfl) | refine lk_m ?_ rfl)), (by repeat (first | with_reducible exact lk_h | ((with_reducible refine lk_e ?_); rfl) | refine lk_m ?_ rfl)), (by repeat (first | with_reducible exact lk_h | ((with_reducible refine lk_e ?_); rfl) | refine lk_m ?_ rfl)), (by repeat (first | with_reducible exact lk_h | ((with_reducible refine lk_e ?_); rfl) | refine lk_m ?_ rfl)), (by repeat (first | with_reducible exact lk_h | ((with_reducible refine lk_e ?_); rfl) | refine lk_m ?_ rfl)), (by repeat (first | with_reducible exact lk_h | ((with_reducible refine lk_e ?_); rfl) | refine lk_m ?_ rfl)), (by repeat (first | with_reducible exact lk_h | ((with_reducible refine lk_e ?_); rfl) | refine lk_m ?_ rfl)), trivial⟩ (eff_id rfl)
set_option maxHeartbeats 4000000 in
set_option maxRecDepth 20000 in
theorem c_L_kept {h : eH} {n b ℓ c T : Nat} {σ : St} {x : Nat → Nat} {τ τs : Nat → St} {us : Nat → Nat} (hO : eNB h b σ x ℓ c τ us τs) (hI : gI σ T) (hT : T < 2 ^ 20) : kL_kept [.ref b] h n (.inl (some (.int (nI 1))), (· = h), none) 0 0 := by
  refine eM.of RL "kept" [(0, .ref b)] pn_L rfl rfl (Nat.le_of_ble_eq_true rfl) rfl ?_
  have hK := hI.ok hT
  have hB := hK.1
  have hP := hK.2.1
  have hN := hK.2.2.1
  have hA := sAl_b hI hT
  refine ev_aload_n (i := 0) dL_kept_0 rfl (by repeat (first | with_reducible exact lk_h | ((with_reducible refine lk_e ?_); rfl) | refine lk_m ?_ rfl)) ?_
  refine ev_iconst (v := nI 1) dL_kept_1 rfl ?_
  refine ev_roW dL_kept_2 (a_about (w := 1) (v := σ 0 1) hO hI hT (by first | decide | omega) (rfl)) lk_L_100 ⟨Nat.le_of_ble_eq_true rfl, Nat.le_of_ble_eq_true rfl⟩ rfl (Nat.le_of_ble_eq_true rfl) ⟨by first | exact Nat.le_of_ble_eq_true rfl | omega, by first | exact Nat.le_of_ble_eq_true rfl | omega⟩ (fun n_2 => ?_)
  refine ev_l2i dL_kept_5 (lN_i _) ?_
  refine ev_istore_n (i := 1) dL_kept_6 rfl (Nat.le_of_ble_eq_true rfl) ?_
  refine ev_iconst (v := nI 1) dL_kept_7 rfl ?_
  refine ev_istore_n (i := 2) dL_kept_8 rfl (Nat.le_of_ble_eq_true rfl) ?_
  refine ev_lconst (v := lN 0) dL_kept_9 rfl ?_
  refine ev_lstore_n (i := 3) dL_kept_10 rfl (Nat.le_of_ble_eq_true rfl) ?_
  refine ev_lconst (v := lN 0) dL_kept_11 rfl ?_
  refine ev_lstore (i := 5) dL_kept_12 (Nat.le_of_ble_eq_true rfl) ?_
  refine ev_lconst (v := lN 0) dL_kept_14 rfl ?_
  refine ev_lstore (i := 7) dL_kept_15 (Nat.le_of_ble_eq_true rfl) ?_
  refine ev_lconst (v := lN 0) dL_kept_17 rfl ?_
  refine ev_lstore (i := 9) dL_kept_18 (Nat.le_of_ble_eq_true rfl) ?_
  refine ev_lconst (v := lN 0) dL_kept_20 rfl ?_
  refine ev_lstore (i := 11) dL_kept_21 (Nat.le_of_ble_eq_true rfl) ?_
  refine ev_iconst (v := nI 0) dL_kept_23 rfl ?_
  refine ev_istore (i := 13) dL_kept_24 (Nat.le_of_ble_eq_true rfl) ?_
  refine ev_iconst (v := nI 0) dL_kept_26 rfl ?_
  refine ev_istore (i := 14) dL_kept_27 (Nat.le_of_ble_eq_true rfl) ?_
  exact (kept_29 hO hI hT _ 0 (Nat.zero_le _)).sub1 ⟨(by repeat (first | with_reducible exact lk_h | ((with_reducible refine lk_e ?_); rfl) | refine lk_m ?_ rfl)), (by repeat (first | with_reducible exact lk_h | ((with_reducible refine lk_e ?_); rfl) | refine lk_m ?_ rfl)), (by repeat (first | with_reducible exact lk_h | ((with_reducible refine lk_e ?_); rfl) | refine lk_m ?_ rfl)), (by repeat (first | with_reducible exact lk_h | ((with_reducible refine lk_e ?_); rfl) | refine lk_m ?_ rfl)), (by repeat (first | with_reducible exact lk_h | ((with_reducible refine lk_e ?_); rfl) | refine lk_m ?_ rfl)), (by repeat (first | with_reducible exact lk_h | ((with_reducible refine lk_e ?_); rfl) | refine lk_m ?_ rfl)), (by repeat (first | with_reducible exact lk_h | ((with_reducible refine lk_e ?_); rfl) | refine lk_m ?_ rfl)), (by repeat (first | with_reducible exact lk_h | ((with_reducible refine lk_e ?_); rfl) | refine lk_m ?_ rfl)), (by repeat (first | with_reducible exact lk_h | ((with_reducible refine lk_e ?_); rfl) | refine lk_m ?_ rfl)), (by repeat (first | with_reducible exact lk_h | ((with_reducible refine lk_e ?_); rfl) | refine lk_m ?_ rfl)), trivial⟩ (eff_id rfl)
