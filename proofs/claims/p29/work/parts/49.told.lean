theorem eNB.l120 {h : eH} {b ℓ c : Nat} {σ : St} {x : Nat → Nat} {τ τs : Nat → St} {us : Nat → Nat} (hO : eNB h b σ x ℓ c τ us τs) : ℓ ≤ 120 := by
  obtain ⟨h0, ⟨k, u, hT, hu⟩, -⟩ := hO
  exact hT.2.1.1
theorem a_append {h : eH} {n b ℓ c : Nat} {σ : St} {x : Nat → Nat} {τ τs : Nat → St} {us : Nat → Nat} (hO : eNB h b σ x ℓ c τ us τs) {v : Nat} (hv : v < 256) (hl : ℓ < 120) : kL_append [.ref b, .int (nI v)] h n (.inl (some (.long (lN (ℓ + 1)))), (fun g => eNB g b σ (tPut x ℓ v) (ℓ + 1) c τ us τs ∧ eFr h g b (b + 317)), some n) 0 0 :=
  w_append (nI_l (by omega)) hO.1 (c_X10_append hO hv hl)
theorem a_errNone {h : eH} {n b ℓ c : Nat} {σ : St} {x : Nat → Nat} {τ τs : Nat → St} {us : Nat → Nat} (hO : eNB h b σ x ℓ c τ us τs) (he : tErr x ℓ (0, 0, fun _ => 0) = none) : kX10_errorPosition [.ref b] h n (.inl (some (.int (-1))), (fun g => eNB g b σ x ℓ c τ us τs ∧ eFr h g b (b + 317)), some n) 0 0 := by
  have q := c_X10_errorPosition (n := n) hO
  rw [he] at q
  exact q
theorem shr_k {k : Nat} (h : k < 4) : (((nI k) &&& 31 : Int32).toBitVec.smod 32).toNat = k := by
  rcases (by omega : k = 0 ∨ k = 1 ∨ k = 2 ∨ k = 3) with rfl | rfl | rfl | rfl <;> decide
theorem eNB.len {h : eH} {b ℓ ℓ' c : Nat} {σ : St} {x x' : Nat → Nat} {τ τs : Nat → St} {us : Nat → Nat} (hO : eNB h b σ x ℓ c τ us τs) (e : ℓ = ℓ') (ex : x = x') : eNB h b σ x' ℓ' c τ us τs := by
  subst e
  subst ex
  exact hO
set_option maxHeartbeats 4000000 in
set_option maxRecDepth 20000 in
theorem c_L_says {h : eH} {n b ℓ c : Nat} {σ : St} {x : Nat → Nat} {τ τs : Nat → St} {us : Nat → Nat} (hO : eNB h b σ x ℓ c τ us τs) {v1 v2 v3 v4 : Nat} (hl : ℓ + 4 ≤ 120) (h1 : v1 < 256) (h2 : v2 < 256) (h3 : v3 < 256) (h4 : v4 < 256) : kL_says [.ref b, .int (nI v1), .int (nI v2), .int (nI v3), .int (nI v4)] h n (.inl (some (.int (nI 1))), (fun g => eNB g b σ (putL x ℓ [v1, v2, v3, v4]) (ℓ + 4) c τ us τs ∧ eFr h g b (b + 317)), none) 0 0 := by
  refine eM.of RL "says" [(0, .ref b), (1, .int (nI v1)), (2, .int (nI v2)), (3, .int (nI v3)), (4, .int (nI v4))] pn_L rfl rfl (Nat.le_of_ble_eq_true rfl) rfl ?_
  have FR : eFr h h b (b + 317) := eFr.rf
  refine ev_aload_n dL_says_0 rfl rfl ?_
  refine ev_iload_n dL_says_1 rfl rfl ?_
  refine ev_stW dL_says_2 (a_append hO (by omega) (by omega)) lk_L_153 ⟨Nat.le_of_ble_eq_true rfl, Nat.le_of_ble_eq_true rfl⟩ rfl (Nat.le_of_ble_eq_true rfl) ⟨by first | exact Nat.le_of_ble_eq_true rfl | omega, by first | exact Nat.le_of_ble_eq_true rfl | omega⟩ (fun n_2 g_2 hg_2 => ?_)
  obtain ⟨hO, fr_2⟩ := hg_2
  replace FR := FR.trans fr_2
  refine ev_lconst (v := lN 0) dL_says_5 rfl ?_
  refine ev_lcN_le (tgt := 45) dL_says_6 dL_says_7 (by decide) (by omega) (by omega) (fun c_6 => absurd c_6 (by omega)) (fun c_6 => ?_)
  refine ev_aload_n dL_says_10 rfl rfl ?_
  refine ev_iload_n dL_says_11 rfl rfl ?_
  refine ev_stW dL_says_12 (a_append hO (by omega) (by omega)) lk_L_153 ⟨Nat.le_of_ble_eq_true rfl, Nat.le_of_ble_eq_true rfl⟩ rfl (Nat.le_of_ble_eq_true rfl) ⟨by first | exact Nat.le_of_ble_eq_true rfl | omega, by first | exact Nat.le_of_ble_eq_true rfl | omega⟩ (fun n_12 g_12 hg_12 => ?_)
  obtain ⟨hO, fr_12⟩ := hg_12
  replace FR := FR.trans fr_12
  refine ev_lconst (v := lN 0) dL_says_15 rfl ?_
  refine ev_lcN_le (tgt := 45) dL_says_16 dL_says_17 (by decide) (by omega) (by omega) (fun c_16 => absurd c_16 (by omega)) (fun c_16 => ?_)
  refine ev_aload_n dL_says_20 rfl rfl ?_
  refine ev_iload_n dL_says_21 rfl rfl ?_
  refine ev_stW dL_says_22 (a_append hO (by omega) (by omega)) lk_L_153 ⟨Nat.le_of_ble_eq_true rfl, Nat.le_of_ble_eq_true rfl⟩ rfl (Nat.le_of_ble_eq_true rfl) ⟨by first | exact Nat.le_of_ble_eq_true rfl | omega, by first | exact Nat.le_of_ble_eq_true rfl | omega⟩ (fun n_22 g_22 hg_22 => ?_)
  obtain ⟨hO, fr_22⟩ := hg_22
  replace FR := FR.trans fr_22
  refine ev_lconst (v := lN 0) dL_says_25 rfl ?_
  refine ev_lcN_le (tgt := 45) dL_says_26 dL_says_27 (by decide) (by omega) (by omega) (fun c_26 => absurd c_26 (by omega)) (fun c_26 => ?_)
  refine ev_aload_n dL_says_30 rfl rfl ?_
  refine ev_iload dL_says_31 rfl ?_
  refine ev_stW dL_says_33 (a_append hO (by omega) (by omega)) lk_L_153 ⟨Nat.le_of_ble_eq_true rfl, Nat.le_of_ble_eq_true rfl⟩ rfl (Nat.le_of_ble_eq_true rfl) ⟨by first | exact Nat.le_of_ble_eq_true rfl | omega, by first | exact Nat.le_of_ble_eq_true rfl | omega⟩ (fun n_33 g_33 hg_33 => ?_)
  obtain ⟨hO, fr_33⟩ := hg_33
  replace FR := FR.trans fr_33
  refine ev_lconst (v := lN 0) dL_says_36 rfl ?_
  refine ev_lcN_le (tgt := 45) dL_says_37 dL_says_38 (by decide) (by omega) (by omega) (fun c_37 => absurd c_37 (by omega)) (fun c_37 => ?_)
  refine ev_iconst (v := nI 1) dL_says_41 rfl ?_
  refine ev_goto (tgt := 46) dL_says_42 (by decide) ?_
  exact ev_iret dL_says_46 rfl (by first | rfl | exact bI_n _) (by rfl) (by exact ⟨hO, FR⟩) (fun _ e => nomatch e) (by first | exact Nat.le_of_ble_eq_true rfl | omega) (by first | exact Nat.le_of_ble_eq_true rfl | omega)
set_option maxHeartbeats 4000000 in
set_option maxRecDepth 20000 in
theorem told_105 {h : eH} {b c X : Nat} {σ : St} {x : Nat → Nat} {τ τs : Nat → St} {us : Nat → Nat} (hX : X < 2 ^ 31) : ∀ (g : eH) (n_0 k : Nat), eNB g b σ (gT X x k) (21 + 13 * k) c τ us τs → eFr h g b (b + 317) → k ≤ 1 + X % 4 → eV mL_told 105 [(0, .ref b), (1, .int (nI X)), (2, .int (nI 1)), (3, .int (nI k))] [] (g, n_0, 0, 0) (.inl (some (.int (nI 1))), (fun g => eNB g b σ (fT X x) (fL X) c τ us τs ∧ eFr h g b (b + 317)), none) 0 0 := by
  intro g n_0 k hO FR hk
  have hm : X % 4 < 4 := Nat.mod_lt _ (by decide)
  have H_105 : ∀ (d_105 : Nat) (g : eH) (n_0 k : Nat), d_105 = 1 + X % 4 - k → (eNB g b σ (gT X x k) (21 + 13 * k) c τ us τs) → (eFr h g b (b + 317)) → (k ≤ 1 + X % 4) → eV mL_told 105 [(0, .ref b), (1, .int (nI X)), (2, .int (nI 1)), (3, .int (nI k))] [] (g, n_0, 0, 0) (.inl (some (.int (nI 1))), (fun g => eNB g b σ (fT X x) (fL X) c τ us τs ∧ eFr h g b (b + 317)), none) 0 0 := by
    intro d_105
    induction d_105 using Nat.strongRecOn with
    | _ d_105 ih_105 =>
    intro g n_0 k hd_105 hO FR hk
    refine ev_iload_n dL_told_105 rfl rfl ?_
    refine ev_iconst (v := nI 1) dL_told_106 rfl ?_
    refine ev_iload_n dL_told_107 rfl rfl ?_
    refine ev_iconst (v := nI 4) dL_told_108 rfl ?_
    refine ev_iremN dL_told_109 (by omega) (by first | assumption | omega) (by omega) ?_
    refine ev_iaddN dL_told_110 ?_
    refine ev_icmp_geN (tgt := 221) dL_told_111 (by decide) (by omega) (by omega) (fun c_111 => ?_) (fun c_111 => ?_)
    · have ek : k = 1 + X % 4 := by omega
      subst ek
      refine ev_iload_n dL_told_221 rfl rfl ?_
      refine ev_if_eqN (tgt := 317) dL_told_222 (by decide) (by decide) (fun c => absurd c (by decide)) (fun _ => ?_)
      refine ev_aload_n dL_told_225 rfl rfl ?_
      refine ev_bipush (v := nI 115) dL_told_226 rfl ?_
      refine ev_bipush (v := nI 48) dL_told_228 rfl ?_
      refine ev_bipush (v := nI 49) dL_told_230 rfl ?_
      refine ev_iload_n dL_told_232 rfl rfl ?_
      refine ev_iconst (v := nI 3) dL_told_233 rfl ?_
      refine ev_iremN dL_told_234 (by omega) (by first | assumption | omega) (by omega) ?_
      refine ev_iaddN dL_told_235 ?_
      refine ev_bipush (v := nI 98) dL_told_236 rfl ?_
      refine ev_stN dL_told_238 (c_L_says hO (by omega) (by omega) (by omega) (by omega) (by omega)) lk_L_189 ⟨Nat.le_of_ble_eq_true rfl, Nat.le_of_ble_eq_true rfl⟩ rfl (Nat.le_of_ble_eq_true rfl) ⟨by first | exact Nat.le_of_ble_eq_true rfl | omega, by first | exact Nat.le_of_ble_eq_true rfl | omega⟩ (fun n_238 g_238 hg_238 => ?_)
      obtain ⟨hO, fr_238⟩ := hg_238
      replace FR := FR.trans fr_238
      refine ev_if_eqN (tgt := 317) dL_told_241 (by decide) (by decide) (fun c => absurd c (by decide)) (fun _ => ?_)
      refine ev_aload_n dL_told_244 rfl rfl ?_
      refine ev_bipush (v := nI 48) dL_told_245 rfl ?_
      refine ev_bipush (v := nI 49) dL_told_247 rfl ?_
      refine ev_bipush (v := nI 48) dL_told_249 rfl ?_
      refine ev_iload_n dL_told_251 rfl rfl ?_
      refine ev_iconst (v := nI 4) dL_told_252 rfl ?_
      refine ev_iremN dL_told_253 (by omega) (by first | assumption | omega) (by omega) ?_
      refine ev_iaddN dL_told_254 ?_
      refine ev_bipush (v := nI 115) dL_told_255 rfl ?_
      refine ev_stN dL_told_257 (c_L_says hO (by omega) (by omega) (by omega) (by omega) (by omega)) lk_L_189 ⟨Nat.le_of_ble_eq_true rfl, Nat.le_of_ble_eq_true rfl⟩ rfl (Nat.le_of_ble_eq_true rfl) ⟨by first | exact Nat.le_of_ble_eq_true rfl | omega, by first | exact Nat.le_of_ble_eq_true rfl | omega⟩ (fun n_257 g_257 hg_257 => ?_)
      obtain ⟨hO, fr_257⟩ := hg_257
      replace FR := FR.trans fr_257
      refine ev_if_eqN (tgt := 317) dL_told_260 (by decide) (by decide) (fun c => absurd c (by decide)) (fun _ => ?_)
      refine ev_aload_n dL_told_263 rfl rfl ?_
      refine ev_bipush (v := nI 50) dL_told_264 rfl ?_
      refine ev_bipush (v := nI 48) dL_told_266 rfl ?_
      refine ev_iload_n dL_told_268 rfl rfl ?_
      refine ev_bipush (v := nI 10) dL_told_269 rfl ?_
      refine ev_iremN dL_told_271 (by omega) (by first | assumption | omega) (by omega) ?_
      refine ev_iaddN dL_told_272 ?_
      refine ev_bipush (v := nI 99) dL_told_273 rfl ?_
      refine ev_bipush (v := nI 48) dL_told_275 rfl ?_
      refine ev_stN dL_told_277 (c_L_says hO (by omega) (by omega) (by omega) (by omega) (by omega)) lk_L_189 ⟨Nat.le_of_ble_eq_true rfl, Nat.le_of_ble_eq_true rfl⟩ rfl (Nat.le_of_ble_eq_true rfl) ⟨by first | exact Nat.le_of_ble_eq_true rfl | omega, by first | exact Nat.le_of_ble_eq_true rfl | omega⟩ (fun n_277 g_277 hg_277 => ?_)
      obtain ⟨hO, fr_277⟩ := hg_277
      replace FR := FR.trans fr_277
      refine ev_if_eqN (tgt := 317) dL_told_280 (by decide) (by decide) (fun c => absurd c (by decide)) (fun _ => ?_)
      refine ev_aload_n dL_told_283 rfl rfl ?_
      refine ev_bipush (v := nI 65) dL_told_284 rfl ?_
      refine ev_stW dL_told_286 (a_append hO (by omega) (by omega)) lk_L_153 ⟨Nat.le_of_ble_eq_true rfl, Nat.le_of_ble_eq_true rfl⟩ rfl (Nat.le_of_ble_eq_true rfl) ⟨by first | exact Nat.le_of_ble_eq_true rfl | omega, by first | exact Nat.le_of_ble_eq_true rfl | omega⟩ (fun n_286 g_286 hg_286 => ?_)
      obtain ⟨hO, fr_286⟩ := hg_286
      replace FR := FR.trans fr_286
      refine ev_lconst (v := lN 0) dL_told_289 rfl ?_
      refine ev_lcN_le (tgt := 317) dL_told_290 dL_told_291 (by decide) (by omega) (by omega) (fun c_290 => absurd c_290 (by omega)) (fun c_290 => ?_)
      refine ev_aload_n dL_told_294 rfl rfl ?_
      refine ev_bipush (v := nI 46) dL_told_295 rfl ?_
      refine ev_stW dL_told_297 (a_append hO (by omega) (by omega)) lk_L_153 ⟨Nat.le_of_ble_eq_true rfl, Nat.le_of_ble_eq_true rfl⟩ rfl (Nat.le_of_ble_eq_true rfl) ⟨by first | exact Nat.le_of_ble_eq_true rfl | omega, by first | exact Nat.le_of_ble_eq_true rfl | omega⟩ (fun n_297 g_297 hg_297 => ?_)
      obtain ⟨hO, fr_297⟩ := hg_297
      replace FR := FR.trans fr_297
      replace hO := hO.len (ℓ' := fL X) (x' := fT X x) rfl rfl
      refine ev_lconst (v := lN 0) dL_told_300 rfl ?_
      refine ev_lcN_le (tgt := 317) dL_told_301 dL_told_302 (by decide) (by omega) (by omega) (fun c_301 => absurd c_301 (by omega)) (fun c_301 => ?_)
      refine ev_aload_n dL_told_305 rfl rfl ?_
      refine ev_stV dL_told_306 (a_errNone hO (fT_ok X x _)) rfl lk_L_179 hO.1 ⟨Nat.le_of_ble_eq_true rfl, Nat.le_of_ble_eq_true rfl⟩ rfl (Nat.le_of_ble_eq_true rfl) ⟨by first | exact Nat.le_of_ble_eq_true rfl | omega, by first | exact Nat.le_of_ble_eq_true rfl | omega⟩ (fun n_306 g_306 hg_306 => ?_)
      obtain ⟨hO, fr_306⟩ := hg_306
      replace FR := FR.trans fr_306
      refine ev_iconst (v := -1) dL_told_309 (by decide) ?_
      refine ev_icS_ne (tgt := 317) dL_told_310 (by decide) (by rfl) ?_
      refine ev_iconst (v := nI 1) dL_told_313 rfl ?_
      refine ev_goto (tgt := 318) dL_told_314 (by decide) ?_
      exact ev_iret dL_told_318 rfl (by first | rfl | exact bI_n _) (by rfl) (by exact ⟨hO, FR⟩) (fun _ e => nomatch e) (by first | exact Nat.le_of_ble_eq_true rfl | omega) (by first | exact Nat.le_of_ble_eq_true rfl | omega)
    · refine ev_iload_n dL_told_114 rfl rfl ?_
      refine ev_if_eqN (tgt := 221) dL_told_115 (by decide) (by decide) (fun c => absurd c (by decide)) (fun _ => ?_)
      refine ev_iload_n dL_told_118 rfl rfl ?_
      refine ev_iload_n dL_told_119 rfl rfl ?_
      refine ev_ishr dL_told_120 ?_
      rw [pk_shrN hX _ k (shr_k (by omega))]
      have hy : X / 2 ^ k < 2 ^ 31 := Nat.lt_of_le_of_lt (Nat.div_le_self _ _) hX
      refine ev_istore dL_told_121 (Nat.le_of_ble_eq_true rfl) ?_
      refine ev_aload_n dL_told_123 rfl rfl ?_
      refine ev_bipush (v := nI 103) dL_told_124 rfl ?_
      refine ev_bipush (v := nI 48) dL_told_126 rfl ?_
      refine ev_bipush (v := nI 48) dL_told_128 rfl ?_
      refine ev_iload dL_told_130 rfl ?_
      refine ev_iconst (v := nI 4) dL_told_132 rfl ?_
      refine ev_iremN dL_told_133 (by omega) (by first | assumption | omega) (by omega) ?_
      refine ev_iaddN dL_told_134 ?_
      refine ev_bipush (v := nI 48) dL_told_135 rfl ?_
      refine ev_stN dL_told_137 (c_L_says hO (by omega) (by omega) (by omega) (by omega) (by omega)) lk_L_189 ⟨Nat.le_of_ble_eq_true rfl, Nat.le_of_ble_eq_true rfl⟩ rfl (Nat.le_of_ble_eq_true rfl) ⟨by first | exact Nat.le_of_ble_eq_true rfl | omega, by first | exact Nat.le_of_ble_eq_true rfl | omega⟩ (fun n_137 g_137 hg_137 => ?_)
      obtain ⟨hO, fr_137⟩ := hg_137
      replace FR := FR.trans fr_137
      refine ev_if_eqN (tgt := 213) dL_told_140 (by decide) (by decide) (fun c => absurd c (by decide)) (fun _ => ?_)
      refine ev_aload_n dL_told_143 rfl rfl ?_
      refine ev_bipush (v := nI 48) dL_told_144 rfl ?_
      refine ev_iload dL_told_146 rfl ?_
      refine ev_iconst (v := nI 4) dL_told_148 rfl ?_
      refine ev_idivN dL_told_149 (by omega) (by first | assumption | omega) (by omega) ?_
      refine ev_iconst (v := nI 4) dL_told_150 rfl ?_
      refine ev_iremN dL_told_151 (by omega) (by first | assumption | omega) (by omega) ?_
      refine ev_iaddN dL_told_152 ?_
      refine ev_bipush (v := nI 65) dL_told_153 rfl ?_
      refine ev_iload dL_told_155 rfl ?_
      refine ev_iconst (v := nI 3) dL_told_157 rfl ?_
      refine ev_iremN dL_told_158 (by omega) (by first | assumption | omega) (by omega) ?_
      refine ev_iaddN dL_told_159 ?_
      refine ev_bipush (v := nI 46) dL_told_160 rfl ?_
      refine ev_bipush (v := nI 99) dL_told_162 rfl ?_
      refine ev_stN dL_told_164 (c_L_says hO (by omega) (by omega) (by omega) (by omega) (by omega)) lk_L_189 ⟨Nat.le_of_ble_eq_true rfl, Nat.le_of_ble_eq_true rfl⟩ rfl (Nat.le_of_ble_eq_true rfl) ⟨by first | exact Nat.le_of_ble_eq_true rfl | omega, by first | exact Nat.le_of_ble_eq_true rfl | omega⟩ (fun n_164 g_164 hg_164 => ?_)
      obtain ⟨hO, fr_164⟩ := hg_164
      replace FR := FR.trans fr_164
      refine ev_if_eqN (tgt := 213) dL_told_167 (by decide) (by decide) (fun c => absurd c (by decide)) (fun _ => ?_)
      refine ev_aload_n dL_told_170 rfl rfl ?_
      refine ev_bipush (v := nI 48) dL_told_171 rfl ?_
      refine ev_iload dL_told_173 rfl ?_
      refine ev_bipush (v := nI 7) dL_told_175 rfl ?_
      refine ev_idivN dL_told_177 (by omega) (by first | assumption | omega) (by omega) ?_
      refine ev_iconst (v := nI 2) dL_told_178 rfl ?_
      refine ev_iremN dL_told_179 (by omega) (by first | assumption | omega) (by omega) ?_
      refine ev_iaddN dL_told_180 ?_
      refine ev_bipush (v := nI 65) dL_told_181 rfl ?_
      refine ev_iload dL_told_183 rfl ?_
      refine ev_iconst (v := nI 3) dL_told_185 rfl ?_
      refine ev_iremN dL_told_186 (by omega) (by first | assumption | omega) (by omega) ?_
      refine ev_iaddN dL_told_187 ?_
      refine ev_bipush (v := nI 46) dL_told_188 rfl ?_
      refine ev_bipush (v := nI 121) dL_told_190 rfl ?_
      refine ev_stN dL_told_192 (c_L_says hO (by omega) (by omega) (by omega) (by omega) (by omega)) lk_L_189 ⟨Nat.le_of_ble_eq_true rfl, Nat.le_of_ble_eq_true rfl⟩ rfl (Nat.le_of_ble_eq_true rfl) ⟨by first | exact Nat.le_of_ble_eq_true rfl | omega, by first | exact Nat.le_of_ble_eq_true rfl | omega⟩ (fun n_192 g_192 hg_192 => ?_)
      obtain ⟨hO, fr_192⟩ := hg_192
      replace FR := FR.trans fr_192
      refine ev_if_eqN (tgt := 213) dL_told_195 (by decide) (by decide) (fun c => absurd c (by decide)) (fun _ => ?_)
      refine ev_aload_n dL_told_198 rfl rfl ?_
      refine ev_bipush (v := nI 49) dL_told_199 rfl ?_
      refine ev_stW dL_told_201 (a_append hO (by omega) (by omega)) lk_L_153 ⟨Nat.le_of_ble_eq_true rfl, Nat.le_of_ble_eq_true rfl⟩ rfl (Nat.le_of_ble_eq_true rfl) ⟨by first | exact Nat.le_of_ble_eq_true rfl | omega, by first | exact Nat.le_of_ble_eq_true rfl | omega⟩ (fun n_201 g_201 hg_201 => ?_)
      obtain ⟨hO, fr_201⟩ := hg_201
      replace FR := FR.trans fr_201
      replace hO := hO.len (ℓ' := 21 + 13 * (k + 1)) (x' := gT X x (k + 1)) (by omega) rfl
      refine ev_lconst (v := lN 0) dL_told_204 rfl ?_
      refine ev_lcN_le (tgt := 213) dL_told_205 dL_told_206 (by decide) (by omega) (by omega) (fun c_205 => absurd c_205 (by omega)) (fun c_205 => ?_)
      refine ev_iconst (v := nI 1) dL_told_209 rfl ?_
      refine ev_goto (tgt := 214) dL_told_210 (by decide) ?_
      refine ev_istore_n dL_told_214 rfl (Nat.le_of_ble_eq_true rfl) ?_
      refine ev_iincN dL_told_215 rfl (Nat.le_of_ble_eq_true rfl) ?_
      refine ev_goto (tgt := 105) dL_told_218 (by decide) ?_
      exact (ih_105 _ (by omega) _ _ (k + 1) rfl (by exact hO) (by exact FR) (by omega)).sub1 ⟨rfl, rfl, rfl, rfl, trivial⟩ rfl
  exact (H_105 _ g n_0 k rfl (by exact hO) (by exact FR) (by exact hk)).sub1 ⟨rfl, rfl, rfl, rfl, trivial⟩ rfl
set_option maxHeartbeats 4000000 in
set_option maxRecDepth 20000 in
theorem c_L_told {h : eH} {n b ℓ c : Nat} {σ : St} {x : Nat → Nat} {τ τs : Nat → St} {us : Nat → Nat} (hO : eNB h b σ x ℓ c τ us τs) {X : Nat} (hX : X < 2 ^ 31) : kL_told [.ref b, .int (nI X)] h n (.inl (some (.int (nI 1))), (fun g => eNB g b σ (fT X x) (fL X) c τ us τs ∧ eFr h g b (b + 317)), none) 0 0 := by
  refine eM.of RL "told" [(0, .ref b), (1, .int (nI X))] pn_L rfl rfl (Nat.le_of_ble_eq_true rfl) rfl ?_
  have FR : eFr h h b (b + 317) := eFr.rf
  have hl := hO.l120
  refine ev_aload_n dL_told_0 rfl rfl ?_
  refine ev_stV dL_told_1 (c_X10_clearText hO) rfl lk_L_186 hO.1 ⟨Nat.le_of_ble_eq_true rfl, Nat.le_of_ble_eq_true rfl⟩ rfl (Nat.le_of_ble_eq_true rfl) ⟨by first | exact Nat.le_of_ble_eq_true rfl | omega, by first | exact Nat.le_of_ble_eq_true rfl | omega⟩ (fun n_1 g_1 hg_1 => ?_)
  obtain ⟨hO, fr_1⟩ := hg_1
  replace FR := FR.trans fr_1
  refine ev_if_ltN (tgt := 22) dL_told_4 (by decide) (by omega) ?_
  refine ev_aload_n dL_told_7 rfl rfl ?_
  refine ev_bipush (v := nI 82) dL_told_8 rfl ?_
  refine ev_stW dL_told_10 (a_append hO (by omega) (by omega)) lk_L_153 ⟨Nat.le_of_ble_eq_true rfl, Nat.le_of_ble_eq_true rfl⟩ rfl (Nat.le_of_ble_eq_true rfl) ⟨by first | exact Nat.le_of_ble_eq_true rfl | omega, by first | exact Nat.le_of_ble_eq_true rfl | omega⟩ (fun n_10 g_10 hg_10 => ?_)
  obtain ⟨hO, fr_10⟩ := hg_10
  replace FR := FR.trans fr_10
  refine ev_lconst (v := lN 0) dL_told_13 rfl ?_
  refine ev_lcN_le (tgt := 22) dL_told_14 dL_told_15 (by decide) (by omega) (by omega) (fun c_14 => absurd c_14 (by omega)) (fun c_14 => ?_)
  refine ev_iconst (v := nI 1) dL_told_18 rfl ?_
  refine ev_goto (tgt := 23) dL_told_19 (by decide) ?_
  refine ev_istore_n dL_told_23 rfl (Nat.le_of_ble_eq_true rfl) ?_
  refine ev_iconst (v := nI 0) dL_told_24 rfl ?_
  refine ev_istore_n dL_told_25 rfl (Nat.le_of_ble_eq_true rfl) ?_
  have H_26 : ∀ (d_26 : Nat) (g : eH) (n_0 k : Nat), d_26 = 4 - k → (eNB g b σ (pT X x k) (1 + 5 * k) c τ us τs) → (eFr h g b (b + 317)) → (k ≤ 4) → eV mL_told 26 [(0, .ref b), (1, .int (nI X)), (2, .int (nI 1)), (3, .int (nI k))] [] (g, n_0, 0, 0) (.inl (some (.int (nI 1))), (fun g => eNB g b σ (fT X x) (fL X) c τ us τs ∧ eFr h g b (b + 317)), none) 0 0 := by
    intro d_26
    induction d_26 using Nat.strongRecOn with
    | _ d_26 ih_26 =>
    intro g n_0 k hd_26 hO FR hk
    refine ev_iload_n dL_told_26 rfl rfl ?_
    refine ev_iconst (v := nI 4) dL_told_27 rfl ?_
    refine ev_icmp_geN (tgt := 103) dL_told_28 (by decide) (by omega) (by omega) (fun c_28 => ?_) (fun c_28 => ?_)
    · have ek : k = 4 := by omega
      subst ek
      refine ev_iconst (v := nI 0) dL_told_103 rfl ?_
      refine ev_istore_n dL_told_104 rfl (Nat.le_of_ble_eq_true rfl) ?_
      exact (told_105 hX _ _ 0 hO FR (by omega)).sub1 ⟨rfl, rfl, rfl, rfl, trivial⟩ rfl
    · refine ev_iload_n dL_told_31 rfl rfl ?_
      refine ev_if_eqN (tgt := 103) dL_told_32 (by decide) (by decide) (fun c => absurd c (by decide)) (fun _ => ?_)
      refine ev_iload_n dL_told_35 rfl rfl ?_
      refine ev_iload_n dL_told_36 rfl rfl ?_
      refine ev_ishr dL_told_37 ?_
      rw [pk_shrN hX _ k (shr_k (by omega))]
      have hy : X / 2 ^ k < 2 ^ 31 := Nat.lt_of_le_of_lt (Nat.div_le_self _ _) hX
      refine ev_istore dL_told_38 (Nat.le_of_ble_eq_true rfl) ?_
      refine ev_aload_n dL_told_40 rfl rfl ?_
      refine ev_bipush (v := nI 112) dL_told_41 rfl ?_
      refine ev_bipush (v := nI 48) dL_told_43 rfl ?_
      refine ev_iload dL_told_45 rfl ?_
      refine ev_iconst (v := nI 3) dL_told_47 rfl ?_
      refine ev_iremN dL_told_48 (by omega) (by first | assumption | omega) (by omega) ?_
      refine ev_iaddN dL_told_49 ?_
      refine ev_bipush (v := nI 48) dL_told_50 rfl ?_
      refine ev_iload dL_told_52 rfl ?_
      refine ev_bipush (v := nI 10) dL_told_54 rfl ?_
      refine ev_iremN dL_told_56 (by omega) (by first | assumption | omega) (by omega) ?_
      refine ev_iaddN dL_told_57 ?_
      refine ev_bipush (v := nI 48) dL_told_58 rfl ?_
      refine ev_iload dL_told_60 rfl ?_
      refine ev_iconst (v := nI 3) dL_told_62 rfl ?_
      refine ev_idivN dL_told_63 (by omega) (by first | assumption | omega) (by omega) ?_
      refine ev_iconst (v := nI 2) dL_told_64 rfl ?_
      refine ev_iremN dL_told_65 (by omega) (by first | assumption | omega) (by omega) ?_
      refine ev_iaddN dL_told_66 ?_
      refine ev_stN dL_told_67 (c_L_says hO (by omega) (by omega) (by omega) (by omega) (by omega)) lk_L_189 ⟨Nat.le_of_ble_eq_true rfl, Nat.le_of_ble_eq_true rfl⟩ rfl (Nat.le_of_ble_eq_true rfl) ⟨by first | exact Nat.le_of_ble_eq_true rfl | omega, by first | exact Nat.le_of_ble_eq_true rfl | omega⟩ (fun n_67 g_67 hg_67 => ?_)
      obtain ⟨hO, fr_67⟩ := hg_67
      replace FR := FR.trans fr_67
      refine ev_if_eqN (tgt := 95) dL_told_70 (by decide) (by decide) (fun c => absurd c (by decide)) (fun _ => ?_)
      refine ev_aload_n dL_told_73 rfl rfl ?_
      refine ev_bipush (v := nI 48) dL_told_74 rfl ?_
      refine ev_iload dL_told_76 rfl ?_
      refine ev_iconst (v := nI 5) dL_told_78 rfl ?_
      refine ev_idivN dL_told_79 (by omega) (by first | assumption | omega) (by omega) ?_
      refine ev_iconst (v := nI 2) dL_told_80 rfl ?_
      refine ev_iremN dL_told_81 (by omega) (by first | assumption | omega) (by omega) ?_
      refine ev_iaddN dL_told_82 ?_
      refine ev_stW dL_told_83 (a_append hO (by omega) (by omega)) lk_L_153 ⟨Nat.le_of_ble_eq_true rfl, Nat.le_of_ble_eq_true rfl⟩ rfl (Nat.le_of_ble_eq_true rfl) ⟨by first | exact Nat.le_of_ble_eq_true rfl | omega, by first | exact Nat.le_of_ble_eq_true rfl | omega⟩ (fun n_83 g_83 hg_83 => ?_)
      obtain ⟨hO, fr_83⟩ := hg_83
      replace FR := FR.trans fr_83
      replace hO := hO.len (ℓ' := 1 + 5 * (k + 1)) (x' := pT X x (k + 1)) (by omega) rfl
      refine ev_lconst (v := lN 0) dL_told_86 rfl ?_
      refine ev_lcN_le (tgt := 95) dL_told_87 dL_told_88 (by decide) (by omega) (by omega) (fun c_87 => absurd c_87 (by omega)) (fun c_87 => ?_)
      refine ev_iconst (v := nI 1) dL_told_91 rfl ?_
      refine ev_goto (tgt := 96) dL_told_92 (by decide) ?_
      refine ev_istore_n dL_told_96 rfl (Nat.le_of_ble_eq_true rfl) ?_
      refine ev_iincN dL_told_97 rfl (Nat.le_of_ble_eq_true rfl) ?_
      refine ev_goto (tgt := 26) dL_told_100 (by decide) ?_
      exact (ih_26 _ (by omega) _ _ (k + 1) rfl (by exact hO) (by exact FR) (by omega)).sub1 ⟨rfl, rfl, rfl, rfl, trivial⟩ rfl
  exact (H_26 _ _ _ 0 rfl (by exact hO) (by exact FR) (by omega)).sub1 ⟨rfl, rfl, rfl, rfl, trivial⟩ rfl
set_option maxHeartbeats 1000000 in
theorem c_L_draw {a L k : Nat} {xs : Nat → Int32} (hL : L < 2 ^ 31) (hk : k < 2 ^ 31) : ∃ X : Nat, X < 2 ^ 31 ∧ ∀ (h : eH) (n : Nat), eMS yL_draw (.code yL_draw cL_draw 2 (some .int)) 0 0 [.ref a, .int (nI k)] h n a L xs (.inl (some (.int (nI X))), (· = h), none) 0 0 := by
  by_cases hi : k < L
  · obtain ⟨X, hX, e⟩ := draw_and (xs k)
    refine ⟨X, hX, fun h n => ?_⟩
    refine eMS.of RL "draw" [(0, .ref a), (1, .int (nI k))] pn_L rfl rfl (Nat.le_of_ble_eq_true rfl) rfl ?_
    refine ev_iload_n dL_draw_0 rfl rfl ?_
    refine ev_aload_n dL_draw_1 rfl rfl ?_
    refine ev_slen dL_draw_2 rfl ?_
    refine ev_icmp_geN (tgt := 12) dL_draw_3 (by decide) hk hL (fun c => absurd c (by omega)) (fun _ => ?_)
    refine ev_aload_n dL_draw_6 rfl rfl ?_
    refine ev_iload_n dL_draw_7 rfl rfl ?_
    refine ev_sldN dL_draw_8 rfl hi hL ?_
    refine ev_goto (tgt := 20) dL_draw_9 (by decide) ?_
    refine ev_ldc dL_draw_20 wq_L_8 ?_
    refine ev_iand dL_draw_22 ?_
    rw [e]
    exact ev_iret dL_draw_23 rfl rfl rfl rfl (fun _ e => nomatch e) (Nat.le_refl _) (Nat.le_refl _)
  · obtain ⟨X, hX, e⟩ := draw_and (15594259 * nI k + nI 10859)
    refine ⟨X, hX, fun h n => ?_⟩
    refine eMS.of RL "draw" [(0, .ref a), (1, .int (nI k))] pn_L rfl rfl (Nat.le_of_ble_eq_true rfl) rfl ?_
    refine ev_iload_n dL_draw_0 rfl rfl ?_
    refine ev_aload_n dL_draw_1 rfl rfl ?_
    refine ev_slen dL_draw_2 rfl ?_
    refine ev_icmp_geN (tgt := 12) dL_draw_3 (by decide) hk hL (fun _ => ?_) (fun c => absurd c (by omega))
    refine ev_ldc dL_draw_12 wq_L_7 ?_
    refine ev_iload_n dL_draw_14 rfl rfl ?_
    refine ev_imul dL_draw_15 ?_
    refine ev_sipush (v := nI 10859) dL_draw_16 rfl ?_
    refine ev_iadd dL_draw_19 ?_
    refine ev_ldc dL_draw_20 wq_L_8 ?_
    refine ev_iand dL_draw_22 ?_
    rw [e]
    exact ev_iret dL_draw_23 rfl rfl rfl rfl (fun _ e => nomatch e) (Nat.le_refl _) (Nat.le_refl _)
set_option maxHeartbeats 4000000 in
set_option maxRecDepth 20000 in
theorem c_L_in {h : eH} {n v lo hi : Nat} (hv : v < 2 ^ 63) (hhi : hi < 2 ^ 63) (h1 : lo ≤ v) (h2 : v ≤ hi) : kL_in [.long (lN v), .long (lN lo), .long (lN hi)] h n (.inl (some (.int (nI 1))), (· = h), none) 0 0 := by
  refine eM.of RL "in" [(0, .long (lN v)), (2, .long (lN lo)), (4, .long (lN hi))] pn_L rfl rfl (Nat.le_of_ble_eq_true rfl) rfl ?_
  refine ev_lload_n dL_in_0 rfl rfl ?_
  refine ev_lload_n dL_in_1 rfl rfl ?_
  refine ev_lcN_lt (tgt := 17) dL_in_2 dL_in_3 (by decide) (by omega) (by omega) (fun c_2 => absurd c_2 (by omega)) (fun c_2 => ?_)
  refine ev_lload_n dL_in_6 rfl rfl ?_
  refine ev_lload dL_in_7 rfl ?_
  refine ev_lcN_gt (tgt := 17) dL_in_9 dL_in_10 (by decide) (by omega) (by omega) (fun c_9 => absurd c_9 (by omega)) (fun c_9 => ?_)
  refine ev_iconst (v := nI 1) dL_in_13 rfl ?_
  refine ev_goto (tgt := 18) dL_in_14 (by decide) ?_
  exact ev_iret dL_in_18 rfl (by first | rfl | exact bI_n _) (by rfl) (by rfl) (fun _ e => nomatch e) (by first | exact Nat.le_of_ble_eq_true rfl | omega) (by first | exact Nat.le_of_ble_eq_true rfl | omega)
