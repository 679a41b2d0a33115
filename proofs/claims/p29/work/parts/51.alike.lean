theorem eNB.fr {h g : eH} {b ℓ c : Nat} {σ : St} {x : Nat → Nat} {τ τs : Nat → St} {us : Nat → Nat} (hO : eNB h b σ x ℓ c τ us τs) (hg : ∀ a : Nat, b ≤ a → a < b + 317 → g a = h a) : eNB g b σ x ℓ c τ us τs := by
  obtain ⟨h0, ⟨k, u, hT, hu⟩, hR, ⟨ρ, hR2⟩, ⟨f, hP⟩, hS, ⟨wt, hW⟩⟩ := hO
  exact ⟨(hg b (by omega) (by omega)).trans h0, ⟨k, u, hT.fr (fun a _ _ => hg a (by omega) (by omega)), hu⟩, hR.fr (fun a _ _ => hg a (by omega) (by omega)), ⟨ρ, hR2.fr (fun a _ _ => hg a (by omega) (by omega))⟩, ⟨f, hP.fr (fun a _ _ => hg a (by omega) (by omega))⟩, hS.fr (fun a _ _ => hg a (by omega) (by omega)), ⟨wt, hW.fr (fun a _ _ => hg a (by omega) (by omega))⟩⟩
theorem eNB.c14 {h : eH} {b ℓ c : Nat} {σ : St} {x : Nat → Nat} {τ τs : Nat → St} {us : Nat → Nat} (hO : eNB h b σ x ℓ c τ us τs) : c ≤ 14 := by
  obtain ⟨h0, hT, hR, hR2, ⟨f, hP⟩, hS, hW⟩ := hO
  exact hP.2.2.1.2
set_option maxHeartbeats 4000000 in
set_option maxRecDepth 20000 in
theorem c_L_alike {h : eH} {n b ℓ c T X : Nat} {σ : St} {x : Nat → Nat} {τ τs : Nat → St} {us : Nat → Nat} (hO1 : eNB h b σ x ℓ c τ us τs) (hO2 : eNB h (b + 317) σ x ℓ c τ us τs) (hI : gI σ T) (hT : T < 2 ^ 20) (hX : X < 2 ^ 31) : kL_alike [.ref b, .ref (b + 317), .int (nI X)] h n (.inl (some (.int (nI 1))), (fun g => eNB g b σ x ℓ c τ us τs ∧ eNB g (b + 317) σ x ℓ c τ us τs), none) 2 12 := by
  refine eM.of RL "alike" [(0, .ref b), (1, .ref (b + 317)), (2, .int (nI X))] pn_L rfl rfl (Nat.le_of_ble_eq_true rfl) rfl ?_
  have hK := hI.ok hT
  obtain ⟨vb, hbn⟩ := u_bestName (x := x) (ℓ := ℓ) (c := c) (τ := τ) (τs := τs) (us := us) hI hT (g := X % 12) (p := X / 12 % 12) (m := 1) (by omega) (by omega) (by omega)
  refine ev_aload_n dL_alike_0 rfl rfl ?_
  refine ev_roN dL_alike_1 (c_L_now hO1 hI hT) lk_L_110 ⟨Nat.le_of_ble_eq_true rfl, Nat.le_of_ble_eq_true rfl⟩ rfl (Nat.le_of_ble_eq_true rfl) ⟨by first | exact Nat.le_of_ble_eq_true rfl | omega, by first | exact Nat.le_of_ble_eq_true rfl | omega⟩ (fun n_1 => ?_)
  refine ev_aload_n dL_alike_4 rfl rfl ?_
  refine ev_roN dL_alike_5 (c_L_now hO2 hI hT) lk_L_110 ⟨Nat.le_of_ble_eq_true rfl, Nat.le_of_ble_eq_true rfl⟩ rfl (Nat.le_of_ble_eq_true rfl) ⟨by first | exact Nat.le_of_ble_eq_true rfl | omega, by first | exact Nat.le_of_ble_eq_true rfl | omega⟩ (fun n_5 => ?_)
  refine ev_lcS_ne (tgt := 150) dL_alike_8 dL_alike_9 (by decide) (by rfl) ?_
  refine ev_aload_n dL_alike_12 rfl rfl ?_
  refine ev_stV dL_alike_13 (c_X10_errorPosition hO1) rfl lk_L_179 hO1.1 ⟨Nat.le_of_ble_eq_true rfl, Nat.le_of_ble_eq_true rfl⟩ rfl (Nat.le_of_ble_eq_true rfl) ⟨by first | exact Nat.le_of_ble_eq_true rfl | omega, by first | exact Nat.le_of_ble_eq_true rfl | omega⟩ (fun n_13 g_13 hg_13 => ?_)
  obtain ⟨hO1, fr_13⟩ := hg_13
  replace hO2 := hO2.fr (fun a h1 h2 => fr_13 a (by omega))
  refine ev_aload_n dL_alike_16 rfl rfl ?_
  refine ev_stV dL_alike_17 (c_X10_errorPosition hO2) rfl lk_L_179 hO2.1 ⟨Nat.le_of_ble_eq_true rfl, Nat.le_of_ble_eq_true rfl⟩ rfl (Nat.le_of_ble_eq_true rfl) ⟨by first | exact Nat.le_of_ble_eq_true rfl | omega, by first | exact Nat.le_of_ble_eq_true rfl | omega⟩ (fun n_17 g_17 hg_17 => ?_)
  obtain ⟨hO2, fr_17⟩ := hg_17
  replace hO1 := hO1.fr (fun a h1 h2 => fr_17 a (by omega))
  refine ev_icS_ne (tgt := 150) dL_alike_20 (by decide) (by rfl) ?_
  refine ev_aload_n dL_alike_23 rfl rfl ?_
  refine ev_iload_n dL_alike_24 rfl rfl ?_
  refine ev_iconst (v := nI 5) dL_alike_25 rfl ?_
  refine ev_iremN dL_alike_26 (by omega) (by first | assumption | omega) (by omega) ?_
  refine ev_roW dL_alike_27 (a_roll (k := X % 5) hO1 hI hT (by omega)) lk_L_116 ⟨Nat.le_of_ble_eq_true rfl, Nat.le_of_ble_eq_true rfl⟩ rfl (Nat.le_of_ble_eq_true rfl) ⟨by first | exact Nat.le_of_ble_eq_true rfl | omega, by first | exact Nat.le_of_ble_eq_true rfl | omega⟩ (fun n_27 => ?_)
  refine ev_aload_n dL_alike_30 rfl rfl ?_
  refine ev_iload_n dL_alike_31 rfl rfl ?_
  refine ev_iconst (v := nI 5) dL_alike_32 rfl ?_
  refine ev_iremN dL_alike_33 (by omega) (by first | assumption | omega) (by omega) ?_
  refine ev_roW dL_alike_34 (a_roll (k := X % 5) hO2 hI hT (by omega)) lk_L_116 ⟨Nat.le_of_ble_eq_true rfl, Nat.le_of_ble_eq_true rfl⟩ rfl (Nat.le_of_ble_eq_true rfl) ⟨by first | exact Nat.le_of_ble_eq_true rfl | omega, by first | exact Nat.le_of_ble_eq_true rfl | omega⟩ (fun n_34 => ?_)
  refine ev_lcS_ne (tgt := 150) dL_alike_37 dL_alike_38 (by decide) (by rfl) ?_
  refine ev_aload_n dL_alike_41 rfl rfl ?_
  refine ev_roV dL_alike_42 (c_X10_bestGiver hO1 hK) rfl lk_L_169 hO1.1 ⟨Nat.le_of_ble_eq_true rfl, Nat.le_of_ble_eq_true rfl⟩ rfl (Nat.le_of_ble_eq_true rfl) ⟨by first | exact Nat.le_of_ble_eq_true rfl | omega, by first | exact Nat.le_of_ble_eq_true rfl | omega⟩ (fun n_42 => ?_)
  refine ev_aload_n dL_alike_45 rfl rfl ?_
  refine ev_roV dL_alike_46 (c_X10_bestGiver hO2 hK) rfl lk_L_169 hO2.1 ⟨Nat.le_of_ble_eq_true rfl, Nat.le_of_ble_eq_true rfl⟩ rfl (Nat.le_of_ble_eq_true rfl) ⟨by first | exact Nat.le_of_ble_eq_true rfl | omega, by first | exact Nat.le_of_ble_eq_true rfl | omega⟩ (fun n_46 => ?_)
  refine ev_icS_ne (tgt := 150) dL_alike_49 (by decide) (by rfl) ?_
  refine ev_aload_n dL_alike_52 rfl rfl ?_
  refine ev_iload_n dL_alike_53 rfl rfl ?_
  refine ev_bipush (v := nI 12) dL_alike_54 rfl ?_
  refine ev_iremN dL_alike_56 (by omega) (by first | assumption | omega) (by omega) ?_
  refine ev_iload_n dL_alike_57 rfl rfl ?_
  refine ev_bipush (v := nI 12) dL_alike_58 rfl ?_
  refine ev_idivN dL_alike_60 (by omega) (by first | assumption | omega) (by omega) ?_
  refine ev_bipush (v := nI 12) dL_alike_61 rfl ?_
  refine ev_iremN dL_alike_63 (by omega) (by first | assumption | omega) (by omega) ?_
  refine ev_iconst (v := nI 1) dL_alike_64 rfl ?_
  refine ev_sxW dL_alike_65 (hbn _ _ _ hO1) lk_L_138 ⟨Nat.le_of_ble_eq_true rfl, Nat.le_of_ble_eq_true rfl⟩ rfl (Nat.le_of_ble_eq_true rfl) ⟨by first | exact Nat.le_of_ble_eq_true rfl | omega, by first | exact Nat.le_of_ble_eq_true rfl | omega⟩ (fun n_65 g_65 hg_65 => ?_)
  obtain ⟨hO1, fr_65⟩ := hg_65
  replace hO2 := hO2.fr (fun a h1 h2 => fr_65 a (by omega))
  refine ev_aload_n dL_alike_68 rfl rfl ?_
  refine ev_iload_n dL_alike_69 rfl rfl ?_
  refine ev_bipush (v := nI 12) dL_alike_70 rfl ?_
  refine ev_iremN dL_alike_72 (by omega) (by first | assumption | omega) (by omega) ?_
  refine ev_iload_n dL_alike_73 rfl rfl ?_
  refine ev_bipush (v := nI 12) dL_alike_74 rfl ?_
  refine ev_idivN dL_alike_76 (by omega) (by first | assumption | omega) (by omega) ?_
  refine ev_bipush (v := nI 12) dL_alike_77 rfl ?_
  refine ev_iremN dL_alike_79 (by omega) (by first | assumption | omega) (by omega) ?_
  refine ev_iconst (v := nI 1) dL_alike_80 rfl ?_
  refine ev_sxW dL_alike_81 (hbn _ _ _ hO2) lk_L_138 ⟨Nat.le_of_ble_eq_true rfl, Nat.le_of_ble_eq_true rfl⟩ rfl (Nat.le_of_ble_eq_true rfl) ⟨by first | exact Nat.le_of_ble_eq_true rfl | omega, by first | exact Nat.le_of_ble_eq_true rfl | omega⟩ (fun n_81 g_81 hg_81 => ?_)
  obtain ⟨hO2, fr_81⟩ := hg_81
  replace hO1 := hO1.fr (fun a h1 h2 => fr_81 a (by omega))
  refine ev_lcS_ne (tgt := 150) dL_alike_84 dL_alike_85 (by decide) (by rfl) ?_
  refine ev_aload_n dL_alike_88 rfl rfl ?_
  refine ev_iload_n dL_alike_89 rfl rfl ?_
  refine ev_i2l dL_alike_90 (nI_l (by omega)) ?_
  refine ev_iconst (v := nI 5) dL_alike_91 rfl ?_
  refine ev_stW dL_alike_92 (a_simulate (m := 5) hO1 hI hT (by omega)) lk_L_146 ⟨Nat.le_of_ble_eq_true rfl, Nat.le_of_ble_eq_true rfl⟩ rfl (Nat.le_of_ble_eq_true rfl) ⟨by first | exact Nat.le_of_ble_eq_true rfl | omega, by first | exact Nat.le_of_ble_eq_true rfl | omega⟩ (fun n_92 g_92 hg_92 => ?_)
  obtain ⟨hO1, fr_92⟩ := hg_92
  replace hO2 := hO2.fr (fun a h1 h2 => fr_92 a (by omega))
  refine ev_aload_n dL_alike_95 rfl rfl ?_
  refine ev_iload_n dL_alike_96 rfl rfl ?_
  refine ev_i2l dL_alike_97 (nI_l (by omega)) ?_
  refine ev_iconst (v := nI 5) dL_alike_98 rfl ?_
  refine ev_stW dL_alike_99 (a_simulate (m := 5) hO2 hI hT (by omega)) lk_L_146 ⟨Nat.le_of_ble_eq_true rfl, Nat.le_of_ble_eq_true rfl⟩ rfl (Nat.le_of_ble_eq_true rfl) ⟨by first | exact Nat.le_of_ble_eq_true rfl | omega, by first | exact Nat.le_of_ble_eq_true rfl | omega⟩ (fun n_99 g_99 hg_99 => ?_)
  obtain ⟨hO2, fr_99⟩ := hg_99
  replace hO1 := hO1.fr (fun a h1 h2 => fr_99 a (by omega))
  refine ev_lcS_ne (tgt := 150) dL_alike_102 dL_alike_103 (by decide) (by rfl) ?_
  refine ev_aload_n dL_alike_106 rfl rfl ?_
  refine ev_iconst (v := nI 2) dL_alike_107 rfl ?_
  refine ev_ldc2 (v := lN 300001600000) dL_alike_108 wq_L_182 ?_
  refine ev_ldc2 (v := lN 10000) dL_alike_111 wq_L_184 ?_
  refine ev_iload_n dL_alike_114 rfl rfl ?_
  refine ev_bipush (v := nI 9) dL_alike_115 rfl ?_
  refine ev_iremN dL_alike_117 (by omega) (by first | assumption | omega) (by omega) ?_
  refine ev_i2l dL_alike_118 (nI_l (by omega)) ?_
  refine ev_lmul dL_alike_119 ?_
  rw [lN_mul]
  refine ev_ladd dL_alike_120 ?_
  rw [lN_add]
  refine ev_stW dL_alike_121 (a_script (m := 2) (s := 300001600000 + 10000 * (X % 9)) hO1 hI hT (by omega) (by show _ < 1000000000000; omega)) lk_L_140 ⟨Nat.le_of_ble_eq_true rfl, Nat.le_of_ble_eq_true rfl⟩ rfl (Nat.le_of_ble_eq_true rfl) ⟨by first | exact Nat.le_of_ble_eq_true rfl | omega, by first | exact Nat.le_of_ble_eq_true rfl | omega⟩ (fun n_121 g_121 hg_121 => ?_)
  obtain ⟨hO1, fr_121⟩ := hg_121
  replace hO2 := hO2.fr (fun a h1 h2 => fr_121 a (by omega))
  refine ev_aload_n dL_alike_124 rfl rfl ?_
  refine ev_iconst (v := nI 2) dL_alike_125 rfl ?_
  refine ev_ldc2 (v := lN 300001600000) dL_alike_126 wq_L_182 ?_
  refine ev_ldc2 (v := lN 10000) dL_alike_129 wq_L_184 ?_
  refine ev_iload_n dL_alike_132 rfl rfl ?_
  refine ev_bipush (v := nI 9) dL_alike_133 rfl ?_
  refine ev_iremN dL_alike_135 (by omega) (by first | assumption | omega) (by omega) ?_
  refine ev_i2l dL_alike_136 (nI_l (by omega)) ?_
  refine ev_lmul dL_alike_137 ?_
  rw [lN_mul]
  refine ev_ladd dL_alike_138 ?_
  rw [lN_add]
  refine ev_stW dL_alike_139 (a_script (m := 2) (s := 300001600000 + 10000 * (X % 9)) hO2 hI hT (by omega) (by show _ < 1000000000000; omega)) lk_L_140 ⟨Nat.le_of_ble_eq_true rfl, Nat.le_of_ble_eq_true rfl⟩ rfl (Nat.le_of_ble_eq_true rfl) ⟨by first | exact Nat.le_of_ble_eq_true rfl | omega, by first | exact Nat.le_of_ble_eq_true rfl | omega⟩ (fun n_139 g_139 hg_139 => ?_)
  obtain ⟨hO2, fr_139⟩ := hg_139
  replace hO1 := hO1.fr (fun a h1 h2 => fr_139 a (by omega))
  refine ev_lcS_ne (tgt := 150) dL_alike_142 dL_alike_143 (by decide) (by rfl) ?_
  refine ev_iconst (v := nI 1) dL_alike_146 rfl ?_
  refine ev_goto (tgt := 151) dL_alike_147 (by decide) ?_
  exact ev_iret dL_alike_151 rfl (by first | rfl | exact bI_n _) (by rfl) (by exact ⟨hO1, hO2⟩) (fun _ e => nomatch e) (by first | exact Nat.le_of_ble_eq_true rfl | omega) (by first | exact Nat.le_of_ble_eq_true rfl | omega)
