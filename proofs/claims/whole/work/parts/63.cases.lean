abbrev mLw (mn : String) (tb : List ExceptionTableEntry) (a L : Nat) (xs : Nat → Int32) : eMI := (cL_law, 7, ret, RL, mn, 13, 482, tb, some (a, L, xs))
abbrev lvL (a b i : Nat) : List (Nat × Value) := [(0, .ref a), (1, .ref b), (2, .ref (b + 317)), (3, .ref (b + 326)), (4, .int (nI i))]
theorem ev_sldN {M : eMI} {pc : Nat} {lv : List (Nat × Value)} {st : List Value} {w : eH × Nat × Nat × Nat} {r : eRes} {mc ms b L i : Nat} {xs : Nat → Int32} (d : decode M.1 pc = .ok (.iaload, 1)) (hs : M.sc = some (b, L, xs)) (hi : i < L) (hL : L < 2 ^ 31) (k : eV M (pc + 1) lv (.int (xs i) :: st) w r mc ms) : eV M pc lv (.int (nI i) :: .ref b :: st) w r mc ms := by
  have e : (nI i).toNatClampNeg = i := by
    have q := nI_toInt (n := i) (by omega)
    show (nI i).toInt.toNat = i
    omega
  refine ev_sld d hs ?_ ?_
  · unfold vp_in
    rw [e]
    refine not_or.mpr ⟨fun q => ?_, by omega⟩
    have q := Int32.lt_iff_toInt_lt.mp q
    rw [nI_toInt (by omega)] at q
    have z : (0 : Int32).toInt = 0 := by decide
    omega
  · rw [e]
    exact k
theorem nI_zero {j : Nat} (h : j < 2 ^ 31) (e : nI j = 0) : j = 0 := by
  have q := congrArg Int32.toInt e
  rw [nI_toInt h] at q
  have z : (0 : Int32).toInt = 0 := by decide
  omega
theorem lg_cmp_self (a : Int64) : lg_cmp a a = 0 := by simp [lg_cmp]
theorem lvL_in {lv : List (Nat × Value)} {a b i : Nat} (h0 : lk lv 0 = some (.ref a)) (h1 : lk lv 1 = some (.ref b)) (h2 : lk lv 2 = some (.ref (b + 317))) (h3 : lk lv 3 = some (.ref (b + 326))) (h4 : lk lv 4 = some (.int (nI i))) : ∀ q ∈ lvL a b i, lk lv q.1 = some q.2 := by
  intro q hq
  simp only [List.mem_cons, List.not_mem_nil, or_false] at hq
  rcases hq with rfl | rfl | rfl | rfl | rfl <;> assumption
set_option maxHeartbeats 1000000 in
theorem lc_append {mn : String} {tb : List ExceptionTableEntry} {a b L i n c0 s0 mc ms : Nat} {xs : Nat → Int32} {h : eH} {r : eRes} {J' : eH → Prop} (hL : L ≤ 2560) (hi : i + 5 ≤ L) (hmc : c0 + 1 ≤ mc ∧ s0 + 6 ≤ ms) (hs : eStep kL_append kX11_append [.ref b, .int (xs (i + 1)), .ref (b + 326)] [.ref (b + 317), .int (xs (i + 1))] b h n J') (K : ∀ (g : eH) (n' c' s' : Nat), J' g → c' ≤ c0 + 1 → s' ≤ s0 + 6 → eV (mLw mn tb a L xs) 1744 (lvL a b i) [] (g, n', c', s') r mc ms) : eV (mLw mn tb a L xs) 156 (lvL a b i) [] (h, n, c0, s0) r mc ms := by
  obtain ⟨j, P1, nn, c1, s1, hj, hc1, hs1, hw, hrest⟩ := hs
  refine ev_aload_n dL_law_156 rfl rfl ?_
  refine ev_aload_n dL_law_157 rfl rfl ?_
  refine ev_iload dL_law_158 rfl ?_
  refine ev_iconst (v := nI 1) dL_law_160 rfl ?_
  refine ev_iaddN dL_law_161 ?_
  refine ev_sldN dL_law_162 rfl (by omega) (by omega) ?_
  refine ev_aload_n dL_law_163 rfl rfl ?_
  refine ev_callSW (n1 := 0) dL_law_164 hw lk_L_92 ⟨Nat.le_of_ble_eq_true rfl, Nat.le_of_ble_eq_true rfl⟩ rfl (Nat.le_of_ble_eq_true rfl) ⟨by omega, by omega⟩ (fun n1 g _ hg => ?_)
  obtain ⟨⟨z, hz⟩, v, P2, hm, hrest2⟩ := hrest g n1 hg
  refine ev_istore dL_law_167 (Nat.le_of_ble_eq_true rfl) ?_
  refine ev_aload_n dL_law_169 rfl rfl ?_
  refine ev_aload_n dL_law_170 rfl rfl ?_
  refine ev_iload dL_law_171 rfl ?_
  refine ev_iconst (v := nI 1) dL_law_173 rfl ?_
  refine ev_iaddN dL_law_174 ?_
  refine ev_sldN dL_law_175 rfl (by omega) (by omega) ?_
  refine ev_callVi dL_law_176 hm rfl lk_L_97 hz ⟨Nat.le_of_ble_eq_true rfl, Nat.le_of_ble_eq_true rfl⟩ rfl (Nat.le_of_ble_eq_true rfl) ⟨by omega, by omega⟩ (fun g' hg' => ?_)
  obtain ⟨⟨bc, l0, ap, gd, lo, lr, hB⟩, ⟨F, hF, hF0⟩, hJ⟩ := hrest2 g' hg'
  refine ev_istore dL_law_179 (Nat.le_of_ble_eq_true rfl) ?_
  refine ev_aload_n dL_law_181 rfl rfl ?_
  refine ev_callVi dL_law_182 (c_X11_thrown hB) rfl lk_L_98 hB.ob ⟨Nat.le_of_ble_eq_true rfl, Nat.le_of_ble_eq_true rfl⟩ rfl (Nat.le_of_ble_eq_true rfl) ⟨by omega, by omega⟩ (eRo ?_)
  refine ev_iload dL_law_185 rfl ?_
  refine ev_icmp_eq (tgt := 192) dL_law_187 (by decide) (fun _ => ?_) (fun q => absurd rfl q)
  refine ev_iload dL_law_192 rfl ?_
  refine ev_if_ne (tgt := 209) dL_law_194 (by decide) (fun _ => ?_) (fun q => ?_)
  · refine ev_goto (tgt := 1744) dL_law_209 (by decide) (eV.sub (lv' := lvL a b i) (lvL_in rfl rfl rfl rfl rfl) rfl ?_)
    exact K g' n1 _ _ hJ (by omega) (by omega)
  · have ej := nI_zero (by omega) q
    refine ev_aload_n dL_law_197 rfl rfl ?_
    refine ev_iconst (v := nI 0) dL_law_198 rfl ?_
    refine ev_laloadN dL_law_199 hF (by omega) (by decide) ?_
    refine ev_iload dL_law_200 rfl ?_
    refine ev_i2l dL_law_202 rfl ?_
    refine ev_lcmp dL_law_203 ?_
    refine ev_if_eq (tgt := 209) dL_law_204 (by decide) (fun _ => ?_) (fun q => absurd (by rw [hF0 ej]; exact lg_cmp_self _) q)
    refine ev_goto (tgt := 1744) dL_law_209 (by decide) (eV.sub (lv' := lvL a b i) (lvL_in rfl rfl rfl rfl rfl) rfl ?_)
    exact K g' n1 _ _ hJ (by omega) (by omega)
set_option maxHeartbeats 1000000 in
theorem lc_clearText {mn : String} {tb : List ExceptionTableEntry} {a b L i n c0 s0 mc ms : Nat} {xs : Nat → Int32} {h : eH} {r : eRes} {J' : eH → Prop} (hL : L ≤ 2560) (hi : i + 5 ≤ L) (hmc : c0 + 1 ≤ mc ∧ s0 + 6 ≤ ms) (hs : eStep2 kX10_clearText kX11_clearText b h n J') (K : ∀ (g : eH) (n' c' s' : Nat), J' g → c' ≤ c0 + 1 → s' ≤ s0 + 6 → eV (mLw mn tb a L xs) 1744 (lvL a b i) [] (g, n', c', s') r mc ms) : eV (mLw mn tb a L xs) 212 (lvL a b i) [] (h, n, c0, s0) r mc ms := by
  obtain ⟨⟨z0, hz0⟩, v, P1, hw, hrest⟩ := hs
  refine ev_aload_n dL_law_212 rfl rfl ?_
  refine ev_callVi dL_law_213 hw rfl lk_L_101 hz0 ⟨Nat.le_of_ble_eq_true rfl, Nat.le_of_ble_eq_true rfl⟩ rfl (Nat.le_of_ble_eq_true rfl) ⟨by omega, by omega⟩ (fun g hg => ?_)
  obtain ⟨⟨z1, hz1⟩, P2, hm, hrest2⟩ := hrest g hg
  refine ev_aload_n dL_law_216 rfl rfl ?_
  refine ev_callVi dL_law_217 hm rfl lk_L_104 hz1 ⟨Nat.le_of_ble_eq_true rfl, Nat.le_of_ble_eq_true rfl⟩ rfl (Nat.le_of_ble_eq_true rfl) ⟨by omega, by omega⟩ (fun g' hg' => ?_)
  refine ev_icmp_eq (tgt := 1744) dL_law_220 (by decide) (fun _ => ?_) (fun q => absurd rfl q)
  exact K g' n _ _ (hrest2 g' hg') (by omega) (by omega)
set_option maxHeartbeats 1000000 in
theorem lc_errorPosition {mn : String} {tb : List ExceptionTableEntry} {a b L i n c0 s0 mc ms : Nat} {xs : Nat → Int32} {h : eH} {r : eRes} {J' : eH → Prop} (hL : L ≤ 2560) (hi : i + 5 ≤ L) (hmc : c0 + 1 ≤ mc ∧ s0 + 6 ≤ ms) (hs : eStep2 kX10_errorPosition kX11_errorPosition b h n J') (K : ∀ (g : eH) (n' c' s' : Nat), J' g → c' ≤ c0 + 1 → s' ≤ s0 + 6 → eV (mLw mn tb a L xs) 1744 (lvL a b i) [] (g, n', c', s') r mc ms) : eV (mLw mn tb a L xs) 225 (lvL a b i) [] (h, n, c0, s0) r mc ms := by
  obtain ⟨⟨z0, hz0⟩, v, P1, hw, hrest⟩ := hs
  refine ev_aload_n dL_law_225 rfl rfl ?_
  refine ev_callVi dL_law_226 hw rfl lk_L_105 hz0 ⟨Nat.le_of_ble_eq_true rfl, Nat.le_of_ble_eq_true rfl⟩ rfl (Nat.le_of_ble_eq_true rfl) ⟨by omega, by omega⟩ (fun g hg => ?_)
  obtain ⟨⟨z1, hz1⟩, P2, hm, hrest2⟩ := hrest g hg
  refine ev_aload_n dL_law_229 rfl rfl ?_
  refine ev_callVi dL_law_230 hm rfl lk_L_108 hz1 ⟨Nat.le_of_ble_eq_true rfl, Nat.le_of_ble_eq_true rfl⟩ rfl (Nat.le_of_ble_eq_true rfl) ⟨by omega, by omega⟩ (fun g' hg' => ?_)
  refine ev_icmp_eq (tgt := 1744) dL_law_233 (by decide) (fun _ => ?_) (fun q => absurd rfl q)
  exact K g' n _ _ (hrest2 g' hg') (by omega) (by omega)
set_option maxHeartbeats 1000000 in
theorem lc_load {mn : String} {tb : List ExceptionTableEntry} {a b L i n c0 s0 mc ms : Nat} {xs : Nat → Int32} {h : eH} {r : eRes} {J' : eH → Prop} (hL : L ≤ 2560) (hi : i + 5 ≤ L) (hmc : c0 + 1 ≤ mc ∧ s0 + 6 ≤ ms) (hs : eStep kL_load kX11_load [.ref b, .ref (b + 326)] [.ref (b + 317)] b h n J') (K : ∀ (g : eH) (n' c' s' : Nat), J' g → c' ≤ c0 + 1 → s' ≤ s0 + 6 → eV (mLw mn tb a L xs) 1744 (lvL a b i) [] (g, n', c', s') r mc ms) : eV (mLw mn tb a L xs) 238 (lvL a b i) [] (h, n, c0, s0) r mc ms := by
  obtain ⟨j, P1, nn, c1, s1, hj, hc1, hs1, hw, hrest⟩ := hs
  refine ev_aload_n dL_law_238 rfl rfl ?_
  refine ev_aload_n dL_law_239 rfl rfl ?_
  refine ev_callSW (n1 := 0) dL_law_240 hw lk_L_109 ⟨Nat.le_of_ble_eq_true rfl, Nat.le_of_ble_eq_true rfl⟩ rfl (Nat.le_of_ble_eq_true rfl) ⟨by omega, by omega⟩ (fun n1 g _ hg => ?_)
  obtain ⟨⟨z, hz⟩, v, P2, hm, hrest2⟩ := hrest g n1 hg
  refine ev_istore dL_law_243 (Nat.le_of_ble_eq_true rfl) ?_
  refine ev_aload_n dL_law_245 rfl rfl ?_
  refine ev_callVi dL_law_246 hm rfl lk_L_112 hz ⟨Nat.le_of_ble_eq_true rfl, Nat.le_of_ble_eq_true rfl⟩ rfl (Nat.le_of_ble_eq_true rfl) ⟨by omega, by omega⟩ (fun g' hg' => ?_)
  obtain ⟨⟨bc, l0, ap, gd, lo, lr, hB⟩, ⟨F, hF, hF0⟩, hJ⟩ := hrest2 g' hg'
  refine ev_istore dL_law_249 (Nat.le_of_ble_eq_true rfl) ?_
  refine ev_aload_n dL_law_251 rfl rfl ?_
  refine ev_callVi dL_law_252 (c_X11_thrown hB) rfl lk_L_98 hB.ob ⟨Nat.le_of_ble_eq_true rfl, Nat.le_of_ble_eq_true rfl⟩ rfl (Nat.le_of_ble_eq_true rfl) ⟨by omega, by omega⟩ (eRo ?_)
  refine ev_iload dL_law_255 rfl ?_
  refine ev_icmp_eq (tgt := 262) dL_law_257 (by decide) (fun _ => ?_) (fun q => absurd rfl q)
  refine ev_iload dL_law_262 rfl ?_
  refine ev_if_ne (tgt := 279) dL_law_264 (by decide) (fun _ => ?_) (fun q => ?_)
  · refine ev_goto (tgt := 1744) dL_law_279 (by decide) (eV.sub (lv' := lvL a b i) (lvL_in rfl rfl rfl rfl rfl) rfl ?_)
    exact K g' n1 _ _ hJ (by omega) (by omega)
  · have ej := nI_zero (by omega) q
    refine ev_aload_n dL_law_267 rfl rfl ?_
    refine ev_iconst (v := nI 0) dL_law_268 rfl ?_
    refine ev_laloadN dL_law_269 hF (by omega) (by decide) ?_
    refine ev_iload dL_law_270 rfl ?_
    refine ev_i2l dL_law_272 rfl ?_
    refine ev_lcmp dL_law_273 ?_
    refine ev_if_eq (tgt := 279) dL_law_274 (by decide) (fun _ => ?_) (fun q => absurd (by rw [hF0 ej]; exact lg_cmp_self _) q)
    refine ev_goto (tgt := 1744) dL_law_279 (by decide) (eV.sub (lv' := lvL a b i) (lvL_in rfl rfl rfl rfl rfl) rfl ?_)
    exact K g' n1 _ _ hJ (by omega) (by omega)
set_option maxHeartbeats 1000000 in
theorem lc_about {mn : String} {tb : List ExceptionTableEntry} {a b L i n c0 s0 mc ms : Nat} {xs : Nat → Int32} {h : eH} {r : eRes} {J' : eH → Prop} (hL : L ≤ 2560) (hi : i + 5 ≤ L) (hmc : c0 + 1 ≤ mc ∧ s0 + 6 ≤ ms) (hs : eStep kL_about kX11_about [.ref b, .int (xs (i + 1)), .ref (b + 326)] [.ref (b + 317), .int (xs (i + 1))] b h n J') (K : ∀ (g : eH) (n' c' s' : Nat), J' g → c' ≤ c0 + 1 → s' ≤ s0 + 6 → eV (mLw mn tb a L xs) 1744 (lvL a b i) [] (g, n', c', s') r mc ms) : eV (mLw mn tb a L xs) 282 (lvL a b i) [] (h, n, c0, s0) r mc ms := by
  obtain ⟨j, P1, nn, c1, s1, hj, hc1, hs1, hw, hrest⟩ := hs
  refine ev_aload_n dL_law_282 rfl rfl ?_
  refine ev_aload_n dL_law_283 rfl rfl ?_
  refine ev_iload dL_law_284 rfl ?_
  refine ev_iconst (v := nI 1) dL_law_286 rfl ?_
  refine ev_iaddN dL_law_287 ?_
  refine ev_sldN dL_law_288 rfl (by omega) (by omega) ?_
  refine ev_aload_n dL_law_289 rfl rfl ?_
  refine ev_callSW (n1 := 0) dL_law_290 hw lk_L_113 ⟨Nat.le_of_ble_eq_true rfl, Nat.le_of_ble_eq_true rfl⟩ rfl (Nat.le_of_ble_eq_true rfl) ⟨by omega, by omega⟩ (fun n1 g _ hg => ?_)
  obtain ⟨⟨z, hz⟩, v, P2, hm, hrest2⟩ := hrest g n1 hg
  refine ev_istore dL_law_293 (Nat.le_of_ble_eq_true rfl) ?_
  refine ev_aload_n dL_law_295 rfl rfl ?_
  refine ev_aload_n dL_law_296 rfl rfl ?_
  refine ev_iload dL_law_297 rfl ?_
  refine ev_iconst (v := nI 1) dL_law_299 rfl ?_
  refine ev_iaddN dL_law_300 ?_
  refine ev_sldN dL_law_301 rfl (by omega) (by omega) ?_
  refine ev_callVi dL_law_302 hm rfl lk_L_115 hz ⟨Nat.le_of_ble_eq_true rfl, Nat.le_of_ble_eq_true rfl⟩ rfl (Nat.le_of_ble_eq_true rfl) ⟨by omega, by omega⟩ (fun g' hg' => ?_)
  obtain ⟨⟨bc, l0, ap, gd, lo, lr, hB⟩, ⟨F, hF, hF0⟩, hJ⟩ := hrest2 g' hg'
  refine ev_istore dL_law_305 (Nat.le_of_ble_eq_true rfl) ?_
  refine ev_aload_n dL_law_307 rfl rfl ?_
  refine ev_callVi dL_law_308 (c_X11_thrown hB) rfl lk_L_98 hB.ob ⟨Nat.le_of_ble_eq_true rfl, Nat.le_of_ble_eq_true rfl⟩ rfl (Nat.le_of_ble_eq_true rfl) ⟨by omega, by omega⟩ (eRo ?_)
  refine ev_iload dL_law_311 rfl ?_
  refine ev_icmp_eq (tgt := 318) dL_law_313 (by decide) (fun _ => ?_) (fun q => absurd rfl q)
  refine ev_iload dL_law_318 rfl ?_
  refine ev_if_ne (tgt := 335) dL_law_320 (by decide) (fun _ => ?_) (fun q => ?_)
  · refine ev_goto (tgt := 1744) dL_law_335 (by decide) (eV.sub (lv' := lvL a b i) (lvL_in rfl rfl rfl rfl rfl) rfl ?_)
    exact K g' n1 _ _ hJ (by omega) (by omega)
  · have ej := nI_zero (by omega) q
    refine ev_aload_n dL_law_323 rfl rfl ?_
    refine ev_iconst (v := nI 0) dL_law_324 rfl ?_
    refine ev_laloadN dL_law_325 hF (by omega) (by decide) ?_
    refine ev_iload dL_law_326 rfl ?_
    refine ev_i2l dL_law_328 rfl ?_
    refine ev_lcmp dL_law_329 ?_
    refine ev_if_eq (tgt := 335) dL_law_330 (by decide) (fun _ => ?_) (fun q => absurd (by rw [hF0 ej]; exact lg_cmp_self _) q)
    refine ev_goto (tgt := 1744) dL_law_335 (by decide) (eV.sub (lv' := lvL a b i) (lvL_in rfl rfl rfl rfl rfl) rfl ?_)
    exact K g' n1 _ _ hJ (by omega) (by omega)
set_option maxHeartbeats 1000000 in
theorem lc_personOf {mn : String} {tb : List ExceptionTableEntry} {a b L i n c0 s0 mc ms : Nat} {xs : Nat → Int32} {h : eH} {r : eRes} {J' : eH → Prop} (hL : L ≤ 2560) (hi : i + 5 ≤ L) (hmc : c0 + 1 ≤ mc ∧ s0 + 6 ≤ ms) (hs : eStep kL_personOf kX11_personOf [.ref b, .int (xs (i + 1)), .int (xs (i + 2)), .ref (b + 326)] [.ref (b + 317), .int (xs (i + 1)), .int (xs (i + 2))] b h n J') (K : ∀ (g : eH) (n' c' s' : Nat), J' g → c' ≤ c0 + 1 → s' ≤ s0 + 6 → eV (mLw mn tb a L xs) 1744 (lvL a b i) [] (g, n', c', s') r mc ms) : eV (mLw mn tb a L xs) 338 (lvL a b i) [] (h, n, c0, s0) r mc ms := by
  obtain ⟨j, P1, nn, c1, s1, hj, hc1, hs1, hw, hrest⟩ := hs
  refine ev_aload_n dL_law_338 rfl rfl ?_
  refine ev_aload_n dL_law_339 rfl rfl ?_
  refine ev_iload dL_law_340 rfl ?_
  refine ev_iconst (v := nI 1) dL_law_342 rfl ?_
  refine ev_iaddN dL_law_343 ?_
  refine ev_sldN dL_law_344 rfl (by omega) (by omega) ?_
  refine ev_aload_n dL_law_345 rfl rfl ?_
  refine ev_iload dL_law_346 rfl ?_
  refine ev_iconst (v := nI 2) dL_law_348 rfl ?_
  refine ev_iaddN dL_law_349 ?_
  refine ev_sldN dL_law_350 rfl (by omega) (by omega) ?_
  refine ev_aload_n dL_law_351 rfl rfl ?_
  refine ev_callSW (n1 := 0) dL_law_352 hw lk_L_116 ⟨Nat.le_of_ble_eq_true rfl, Nat.le_of_ble_eq_true rfl⟩ rfl (Nat.le_of_ble_eq_true rfl) ⟨by omega, by omega⟩ (fun n1 g _ hg => ?_)
  obtain ⟨⟨z, hz⟩, v, P2, hm, hrest2⟩ := hrest g n1 hg
  refine ev_istore dL_law_355 (Nat.le_of_ble_eq_true rfl) ?_
  refine ev_aload_n dL_law_357 rfl rfl ?_
  refine ev_aload_n dL_law_358 rfl rfl ?_
  refine ev_iload dL_law_359 rfl ?_
  refine ev_iconst (v := nI 1) dL_law_361 rfl ?_
  refine ev_iaddN dL_law_362 ?_
  refine ev_sldN dL_law_363 rfl (by omega) (by omega) ?_
  refine ev_aload_n dL_law_364 rfl rfl ?_
  refine ev_iload dL_law_365 rfl ?_
  refine ev_iconst (v := nI 2) dL_law_367 rfl ?_
  refine ev_iaddN dL_law_368 ?_
  refine ev_sldN dL_law_369 rfl (by omega) (by omega) ?_
  refine ev_callVi dL_law_370 hm rfl lk_L_119 hz ⟨Nat.le_of_ble_eq_true rfl, Nat.le_of_ble_eq_true rfl⟩ rfl (Nat.le_of_ble_eq_true rfl) ⟨by omega, by omega⟩ (fun g' hg' => ?_)
  obtain ⟨⟨bc, l0, ap, gd, lo, lr, hB⟩, ⟨F, hF, hF0⟩, hJ⟩ := hrest2 g' hg'
  refine ev_istore dL_law_373 (Nat.le_of_ble_eq_true rfl) ?_
  refine ev_aload_n dL_law_375 rfl rfl ?_
  refine ev_callVi dL_law_376 (c_X11_thrown hB) rfl lk_L_98 hB.ob ⟨Nat.le_of_ble_eq_true rfl, Nat.le_of_ble_eq_true rfl⟩ rfl (Nat.le_of_ble_eq_true rfl) ⟨by omega, by omega⟩ (eRo ?_)
  refine ev_iload dL_law_379 rfl ?_
  refine ev_icmp_eq (tgt := 386) dL_law_381 (by decide) (fun _ => ?_) (fun q => absurd rfl q)
  refine ev_iload dL_law_386 rfl ?_
  refine ev_if_ne (tgt := 403) dL_law_388 (by decide) (fun _ => ?_) (fun q => ?_)
  · refine ev_goto (tgt := 1744) dL_law_403 (by decide) (eV.sub (lv' := lvL a b i) (lvL_in rfl rfl rfl rfl rfl) rfl ?_)
    exact K g' n1 _ _ hJ (by omega) (by omega)
  · have ej := nI_zero (by omega) q
    refine ev_aload_n dL_law_391 rfl rfl ?_
    refine ev_iconst (v := nI 0) dL_law_392 rfl ?_
    refine ev_laloadN dL_law_393 hF (by omega) (by decide) ?_
    refine ev_iload dL_law_394 rfl ?_
    refine ev_i2l dL_law_396 rfl ?_
    refine ev_lcmp dL_law_397 ?_
    refine ev_if_eq (tgt := 403) dL_law_398 (by decide) (fun _ => ?_) (fun q => absurd (by rw [hF0 ej]; exact lg_cmp_self _) q)
    refine ev_goto (tgt := 1744) dL_law_403 (by decide) (eV.sub (lv' := lvL a b i) (lvL_in rfl rfl rfl rfl rfl) rfl ?_)
    exact K g' n1 _ _ hJ (by omega) (by omega)
set_option maxHeartbeats 1000000 in
theorem lc_nameOf {mn : String} {tb : List ExceptionTableEntry} {a b L i n c0 s0 mc ms : Nat} {xs : Nat → Int32} {h : eH} {r : eRes} {J' : eH → Prop} (hL : L ≤ 2560) (hi : i + 5 ≤ L) (hmc : c0 + 1 ≤ mc ∧ s0 + 6 ≤ ms) (hs : eStep kL_nameOf kX11_nameOf [.ref b, .int (xs (i + 1)), .int (xs (i + 2)), .ref (b + 326)] [.ref (b + 317), .int (xs (i + 1)), .int (xs (i + 2))] b h n J') (K : ∀ (g : eH) (n' c' s' : Nat), J' g → c' ≤ c0 + 1 → s' ≤ s0 + 6 → eV (mLw mn tb a L xs) 1744 (lvL a b i) [] (g, n', c', s') r mc ms) : eV (mLw mn tb a L xs) 406 (lvL a b i) [] (h, n, c0, s0) r mc ms := by
  obtain ⟨j, P1, nn, c1, s1, hj, hc1, hs1, hw, hrest⟩ := hs
  refine ev_aload_n dL_law_406 rfl rfl ?_
  refine ev_aload_n dL_law_407 rfl rfl ?_
  refine ev_iload dL_law_408 rfl ?_
  refine ev_iconst (v := nI 1) dL_law_410 rfl ?_
  refine ev_iaddN dL_law_411 ?_
  refine ev_sldN dL_law_412 rfl (by omega) (by omega) ?_
  refine ev_aload_n dL_law_413 rfl rfl ?_
  refine ev_iload dL_law_414 rfl ?_
  refine ev_iconst (v := nI 2) dL_law_416 rfl ?_
  refine ev_iaddN dL_law_417 ?_
  refine ev_sldN dL_law_418 rfl (by omega) (by omega) ?_
  refine ev_aload_n dL_law_419 rfl rfl ?_
  refine ev_callSW (n1 := 0) dL_law_420 hw lk_L_120 ⟨Nat.le_of_ble_eq_true rfl, Nat.le_of_ble_eq_true rfl⟩ rfl (Nat.le_of_ble_eq_true rfl) ⟨by omega, by omega⟩ (fun n1 g _ hg => ?_)
  obtain ⟨⟨z, hz⟩, v, P2, hm, hrest2⟩ := hrest g n1 hg
  refine ev_istore dL_law_423 (Nat.le_of_ble_eq_true rfl) ?_
  refine ev_aload_n dL_law_425 rfl rfl ?_
  refine ev_aload_n dL_law_426 rfl rfl ?_
  refine ev_iload dL_law_427 rfl ?_
  refine ev_iconst (v := nI 1) dL_law_429 rfl ?_
  refine ev_iaddN dL_law_430 ?_
  refine ev_sldN dL_law_431 rfl (by omega) (by omega) ?_
  refine ev_aload_n dL_law_432 rfl rfl ?_
  refine ev_iload dL_law_433 rfl ?_
  refine ev_iconst (v := nI 2) dL_law_435 rfl ?_
  refine ev_iaddN dL_law_436 ?_
  refine ev_sldN dL_law_437 rfl (by omega) (by omega) ?_
  refine ev_callVi dL_law_438 hm rfl lk_L_122 hz ⟨Nat.le_of_ble_eq_true rfl, Nat.le_of_ble_eq_true rfl⟩ rfl (Nat.le_of_ble_eq_true rfl) ⟨by omega, by omega⟩ (fun g' hg' => ?_)
  obtain ⟨⟨bc, l0, ap, gd, lo, lr, hB⟩, ⟨F, hF, hF0⟩, hJ⟩ := hrest2 g' hg'
  refine ev_istore dL_law_441 (Nat.le_of_ble_eq_true rfl) ?_
  refine ev_aload_n dL_law_443 rfl rfl ?_
  refine ev_callVi dL_law_444 (c_X11_thrown hB) rfl lk_L_98 hB.ob ⟨Nat.le_of_ble_eq_true rfl, Nat.le_of_ble_eq_true rfl⟩ rfl (Nat.le_of_ble_eq_true rfl) ⟨by omega, by omega⟩ (eRo ?_)
  refine ev_iload dL_law_447 rfl ?_
  refine ev_icmp_eq (tgt := 454) dL_law_449 (by decide) (fun _ => ?_) (fun q => absurd rfl q)
  refine ev_iload dL_law_454 rfl ?_
  refine ev_if_ne (tgt := 471) dL_law_456 (by decide) (fun _ => ?_) (fun q => ?_)
  · refine ev_goto (tgt := 1744) dL_law_471 (by decide) (eV.sub (lv' := lvL a b i) (lvL_in rfl rfl rfl rfl rfl) rfl ?_)
    exact K g' n1 _ _ hJ (by omega) (by omega)
  · have ej := nI_zero (by omega) q
    refine ev_aload_n dL_law_459 rfl rfl ?_
    refine ev_iconst (v := nI 0) dL_law_460 rfl ?_
    refine ev_laloadN dL_law_461 hF (by omega) (by decide) ?_
    refine ev_iload dL_law_462 rfl ?_
    refine ev_i2l dL_law_464 rfl ?_
    refine ev_lcmp dL_law_465 ?_
    refine ev_if_eq (tgt := 471) dL_law_466 (by decide) (fun _ => ?_) (fun q => absurd (by rw [hF0 ej]; exact lg_cmp_self _) q)
    refine ev_goto (tgt := 1744) dL_law_471 (by decide) (eV.sub (lv' := lvL a b i) (lvL_in rfl rfl rfl rfl rfl) rfl ?_)
    exact K g' n1 _ _ hJ (by omega) (by omega)
set_option maxHeartbeats 1000000 in
theorem lc_letter {mn : String} {tb : List ExceptionTableEntry} {a b L i n c0 s0 mc ms : Nat} {xs : Nat → Int32} {h : eH} {r : eRes} {J' : eH → Prop} (hL : L ≤ 2560) (hi : i + 5 ≤ L) (hmc : c0 + 1 ≤ mc ∧ s0 + 6 ≤ ms) (hs : eStep kL_letter kX11_letter [.ref b, .int (xs (i + 1)), .int (xs (i + 2)), .ref (b + 326)] [.ref (b + 317), .int (xs (i + 1)), .int (xs (i + 2))] b h n J') (K : ∀ (g : eH) (n' c' s' : Nat), J' g → c' ≤ c0 + 1 → s' ≤ s0 + 6 → eV (mLw mn tb a L xs) 1744 (lvL a b i) [] (g, n', c', s') r mc ms) : eV (mLw mn tb a L xs) 474 (lvL a b i) [] (h, n, c0, s0) r mc ms := by
  obtain ⟨j, P1, nn, c1, s1, hj, hc1, hs1, hw, hrest⟩ := hs
  refine ev_aload_n dL_law_474 rfl rfl ?_
  refine ev_aload_n dL_law_475 rfl rfl ?_
  refine ev_iload dL_law_476 rfl ?_
  refine ev_iconst (v := nI 1) dL_law_478 rfl ?_
  refine ev_iaddN dL_law_479 ?_
  refine ev_sldN dL_law_480 rfl (by omega) (by omega) ?_
  refine ev_aload_n dL_law_481 rfl rfl ?_
  refine ev_iload dL_law_482 rfl ?_
  refine ev_iconst (v := nI 2) dL_law_484 rfl ?_
  refine ev_iaddN dL_law_485 ?_
  refine ev_sldN dL_law_486 rfl (by omega) (by omega) ?_
  refine ev_aload_n dL_law_487 rfl rfl ?_
  refine ev_callSW (n1 := 0) dL_law_488 hw lk_L_123 ⟨Nat.le_of_ble_eq_true rfl, Nat.le_of_ble_eq_true rfl⟩ rfl (Nat.le_of_ble_eq_true rfl) ⟨by omega, by omega⟩ (fun n1 g _ hg => ?_)
  obtain ⟨⟨z, hz⟩, v, P2, hm, hrest2⟩ := hrest g n1 hg
  refine ev_istore dL_law_491 (Nat.le_of_ble_eq_true rfl) ?_
  refine ev_aload_n dL_law_493 rfl rfl ?_
  refine ev_aload_n dL_law_494 rfl rfl ?_
  refine ev_iload dL_law_495 rfl ?_
  refine ev_iconst (v := nI 1) dL_law_497 rfl ?_
  refine ev_iaddN dL_law_498 ?_
  refine ev_sldN dL_law_499 rfl (by omega) (by omega) ?_
  refine ev_aload_n dL_law_500 rfl rfl ?_
  refine ev_iload dL_law_501 rfl ?_
  refine ev_iconst (v := nI 2) dL_law_503 rfl ?_
  refine ev_iaddN dL_law_504 ?_
  refine ev_sldN dL_law_505 rfl (by omega) (by omega) ?_
  refine ev_callVi dL_law_506 hm rfl lk_L_125 hz ⟨Nat.le_of_ble_eq_true rfl, Nat.le_of_ble_eq_true rfl⟩ rfl (Nat.le_of_ble_eq_true rfl) ⟨by omega, by omega⟩ (fun g' hg' => ?_)
  obtain ⟨⟨bc, l0, ap, gd, lo, lr, hB⟩, ⟨F, hF, hF0⟩, hJ⟩ := hrest2 g' hg'
  refine ev_istore dL_law_509 (Nat.le_of_ble_eq_true rfl) ?_
  refine ev_aload_n dL_law_511 rfl rfl ?_
  refine ev_callVi dL_law_512 (c_X11_thrown hB) rfl lk_L_98 hB.ob ⟨Nat.le_of_ble_eq_true rfl, Nat.le_of_ble_eq_true rfl⟩ rfl (Nat.le_of_ble_eq_true rfl) ⟨by omega, by omega⟩ (eRo ?_)
  refine ev_iload dL_law_515 rfl ?_
  refine ev_icmp_eq (tgt := 522) dL_law_517 (by decide) (fun _ => ?_) (fun q => absurd rfl q)
  refine ev_iload dL_law_522 rfl ?_
  refine ev_if_ne (tgt := 539) dL_law_524 (by decide) (fun _ => ?_) (fun q => ?_)
  · refine ev_goto (tgt := 1744) dL_law_539 (by decide) (eV.sub (lv' := lvL a b i) (lvL_in rfl rfl rfl rfl rfl) rfl ?_)
    exact K g' n1 _ _ hJ (by omega) (by omega)
  · have ej := nI_zero (by omega) q
    refine ev_aload_n dL_law_527 rfl rfl ?_
    refine ev_iconst (v := nI 0) dL_law_528 rfl ?_
    refine ev_laloadN dL_law_529 hF (by omega) (by decide) ?_
    refine ev_iload dL_law_530 rfl ?_
    refine ev_i2l dL_law_532 rfl ?_
    refine ev_lcmp dL_law_533 ?_
    refine ev_if_eq (tgt := 539) dL_law_534 (by decide) (fun _ => ?_) (fun q => absurd (by rw [hF0 ej]; exact lg_cmp_self _) q)
    refine ev_goto (tgt := 1744) dL_law_539 (by decide) (eV.sub (lv' := lvL a b i) (lvL_in rfl rfl rfl rfl rfl) rfl ?_)
    exact K g' n1 _ _ hJ (by omega) (by omega)
set_option maxHeartbeats 1000000 in
theorem lc_roll {mn : String} {tb : List ExceptionTableEntry} {a b L i n c0 s0 mc ms : Nat} {xs : Nat → Int32} {h : eH} {r : eRes} {J' : eH → Prop} (hL : L ≤ 2560) (hi : i + 5 ≤ L) (hmc : c0 + 1 ≤ mc ∧ s0 + 6 ≤ ms) (hs : eStep kL_roll kX11_roll [.ref b, .int (xs (i + 1)), .ref (b + 326)] [.ref (b + 317), .int (xs (i + 1))] b h n J') (K : ∀ (g : eH) (n' c' s' : Nat), J' g → c' ≤ c0 + 1 → s' ≤ s0 + 6 → eV (mLw mn tb a L xs) 1744 (lvL a b i) [] (g, n', c', s') r mc ms) : eV (mLw mn tb a L xs) 542 (lvL a b i) [] (h, n, c0, s0) r mc ms := by
  obtain ⟨j, P1, nn, c1, s1, hj, hc1, hs1, hw, hrest⟩ := hs
  refine ev_aload_n dL_law_542 rfl rfl ?_
  refine ev_aload_n dL_law_543 rfl rfl ?_
  refine ev_iload dL_law_544 rfl ?_
  refine ev_iconst (v := nI 1) dL_law_546 rfl ?_
  refine ev_iaddN dL_law_547 ?_
  refine ev_sldN dL_law_548 rfl (by omega) (by omega) ?_
  refine ev_aload_n dL_law_549 rfl rfl ?_
  refine ev_callSW (n1 := 0) dL_law_550 hw lk_L_126 ⟨Nat.le_of_ble_eq_true rfl, Nat.le_of_ble_eq_true rfl⟩ rfl (Nat.le_of_ble_eq_true rfl) ⟨by omega, by omega⟩ (fun n1 g _ hg => ?_)
  obtain ⟨⟨z, hz⟩, v, P2, hm, hrest2⟩ := hrest g n1 hg
  refine ev_istore dL_law_553 (Nat.le_of_ble_eq_true rfl) ?_
  refine ev_aload_n dL_law_555 rfl rfl ?_
  refine ev_aload_n dL_law_556 rfl rfl ?_
  refine ev_iload dL_law_557 rfl ?_
  refine ev_iconst (v := nI 1) dL_law_559 rfl ?_
  refine ev_iaddN dL_law_560 ?_
  refine ev_sldN dL_law_561 rfl (by omega) (by omega) ?_
  refine ev_callVi dL_law_562 hm rfl lk_L_128 hz ⟨Nat.le_of_ble_eq_true rfl, Nat.le_of_ble_eq_true rfl⟩ rfl (Nat.le_of_ble_eq_true rfl) ⟨by omega, by omega⟩ (fun g' hg' => ?_)
  obtain ⟨⟨bc, l0, ap, gd, lo, lr, hB⟩, ⟨F, hF, hF0⟩, hJ⟩ := hrest2 g' hg'
  refine ev_istore dL_law_565 (Nat.le_of_ble_eq_true rfl) ?_
  refine ev_aload_n dL_law_567 rfl rfl ?_
  refine ev_callVi dL_law_568 (c_X11_thrown hB) rfl lk_L_98 hB.ob ⟨Nat.le_of_ble_eq_true rfl, Nat.le_of_ble_eq_true rfl⟩ rfl (Nat.le_of_ble_eq_true rfl) ⟨by omega, by omega⟩ (eRo ?_)
  refine ev_iload dL_law_571 rfl ?_
  refine ev_icmp_eq (tgt := 578) dL_law_573 (by decide) (fun _ => ?_) (fun q => absurd rfl q)
  refine ev_iload dL_law_578 rfl ?_
  refine ev_if_ne (tgt := 595) dL_law_580 (by decide) (fun _ => ?_) (fun q => ?_)
  · refine ev_goto (tgt := 1744) dL_law_595 (by decide) (eV.sub (lv' := lvL a b i) (lvL_in rfl rfl rfl rfl rfl) rfl ?_)
    exact K g' n1 _ _ hJ (by omega) (by omega)
  · have ej := nI_zero (by omega) q
    refine ev_aload_n dL_law_583 rfl rfl ?_
    refine ev_iconst (v := nI 0) dL_law_584 rfl ?_
    refine ev_laloadN dL_law_585 hF (by omega) (by decide) ?_
    refine ev_iload dL_law_586 rfl ?_
    refine ev_i2l dL_law_588 rfl ?_
    refine ev_lcmp dL_law_589 ?_
    refine ev_if_eq (tgt := 595) dL_law_590 (by decide) (fun _ => ?_) (fun q => absurd (by rw [hF0 ej]; exact lg_cmp_self _) q)
    refine ev_goto (tgt := 1744) dL_law_595 (by decide) (eV.sub (lv' := lvL a b i) (lvL_in rfl rfl rfl rfl rfl) rfl ?_)
    exact K g' n1 _ _ hJ (by omega) (by omega)
set_option maxHeartbeats 1000000 in
theorem lc_meant {mn : String} {tb : List ExceptionTableEntry} {a b L i n c0 s0 mc ms : Nat} {xs : Nat → Int32} {h : eH} {r : eRes} {J' : eH → Prop} (hL : L ≤ 2560) (hi : i + 5 ≤ L) (hmc : c0 + 1 ≤ mc ∧ s0 + 6 ≤ ms) (hs : eStep kL_meant kX11_meant [.ref b, .int (xs (i + 1)), .int (xs (i + 2)), .int (xs (i + 3)), .int (xs (i + 4)), .ref (b + 326)] [.ref (b + 317), .int (xs (i + 1)), .int (xs (i + 2)), .int (xs (i + 3)), .int (xs (i + 4))] b h n J') (K : ∀ (g : eH) (n' c' s' : Nat), J' g → c' ≤ c0 + 1 → s' ≤ s0 + 6 → eV (mLw mn tb a L xs) 1744 (lvL a b i) [] (g, n', c', s') r mc ms) : eV (mLw mn tb a L xs) 598 (lvL a b i) [] (h, n, c0, s0) r mc ms := by
  obtain ⟨j, P1, nn, c1, s1, hj, hc1, hs1, hw, hrest⟩ := hs
  refine ev_aload_n dL_law_598 rfl rfl ?_
  refine ev_aload_n dL_law_599 rfl rfl ?_
  refine ev_iload dL_law_600 rfl ?_
  refine ev_iconst (v := nI 1) dL_law_602 rfl ?_
  refine ev_iaddN dL_law_603 ?_
  refine ev_sldN dL_law_604 rfl (by omega) (by omega) ?_
  refine ev_aload_n dL_law_605 rfl rfl ?_
  refine ev_iload dL_law_606 rfl ?_
  refine ev_iconst (v := nI 2) dL_law_608 rfl ?_
  refine ev_iaddN dL_law_609 ?_
  refine ev_sldN dL_law_610 rfl (by omega) (by omega) ?_
  refine ev_aload_n dL_law_611 rfl rfl ?_
  refine ev_iload dL_law_612 rfl ?_
  refine ev_iconst (v := nI 3) dL_law_614 rfl ?_
  refine ev_iaddN dL_law_615 ?_
  refine ev_sldN dL_law_616 rfl (by omega) (by omega) ?_
  refine ev_aload_n dL_law_617 rfl rfl ?_
  refine ev_iload dL_law_618 rfl ?_
  refine ev_iconst (v := nI 4) dL_law_620 rfl ?_
  refine ev_iaddN dL_law_621 ?_
  refine ev_sldN dL_law_622 rfl (by omega) (by omega) ?_
  refine ev_aload_n dL_law_623 rfl rfl ?_
  refine ev_callSW (n1 := 0) dL_law_624 hw lk_L_129 ⟨Nat.le_of_ble_eq_true rfl, Nat.le_of_ble_eq_true rfl⟩ rfl (Nat.le_of_ble_eq_true rfl) ⟨by omega, by omega⟩ (fun n1 g _ hg => ?_)
  obtain ⟨⟨z, hz⟩, v, P2, hm, hrest2⟩ := hrest g n1 hg
  refine ev_istore dL_law_627 (Nat.le_of_ble_eq_true rfl) ?_
  refine ev_aload_n dL_law_629 rfl rfl ?_
  refine ev_aload_n dL_law_630 rfl rfl ?_
  refine ev_iload dL_law_631 rfl ?_
  refine ev_iconst (v := nI 1) dL_law_633 rfl ?_
  refine ev_iaddN dL_law_634 ?_
  refine ev_sldN dL_law_635 rfl (by omega) (by omega) ?_
  refine ev_aload_n dL_law_636 rfl rfl ?_
  refine ev_iload dL_law_637 rfl ?_
  refine ev_iconst (v := nI 2) dL_law_639 rfl ?_
  refine ev_iaddN dL_law_640 ?_
  refine ev_sldN dL_law_641 rfl (by omega) (by omega) ?_
  refine ev_aload_n dL_law_642 rfl rfl ?_
  refine ev_iload dL_law_643 rfl ?_
  refine ev_iconst (v := nI 3) dL_law_645 rfl ?_
  refine ev_iaddN dL_law_646 ?_
  refine ev_sldN dL_law_647 rfl (by omega) (by omega) ?_
  refine ev_aload_n dL_law_648 rfl rfl ?_
  refine ev_iload dL_law_649 rfl ?_
  refine ev_iconst (v := nI 4) dL_law_651 rfl ?_
  refine ev_iaddN dL_law_652 ?_
  refine ev_sldN dL_law_653 rfl (by omega) (by omega) ?_
  refine ev_callVi dL_law_654 hm rfl lk_L_132 hz ⟨Nat.le_of_ble_eq_true rfl, Nat.le_of_ble_eq_true rfl⟩ rfl (Nat.le_of_ble_eq_true rfl) ⟨by omega, by omega⟩ (fun g' hg' => ?_)
  obtain ⟨⟨bc, l0, ap, gd, lo, lr, hB⟩, ⟨F, hF, hF0⟩, hJ⟩ := hrest2 g' hg'
  refine ev_istore dL_law_657 (Nat.le_of_ble_eq_true rfl) ?_
  refine ev_aload_n dL_law_659 rfl rfl ?_
  refine ev_callVi dL_law_660 (c_X11_thrown hB) rfl lk_L_98 hB.ob ⟨Nat.le_of_ble_eq_true rfl, Nat.le_of_ble_eq_true rfl⟩ rfl (Nat.le_of_ble_eq_true rfl) ⟨by omega, by omega⟩ (eRo ?_)
  refine ev_iload dL_law_663 rfl ?_
  refine ev_icmp_eq (tgt := 670) dL_law_665 (by decide) (fun _ => ?_) (fun q => absurd rfl q)
  refine ev_iload dL_law_670 rfl ?_
  refine ev_if_ne (tgt := 687) dL_law_672 (by decide) (fun _ => ?_) (fun q => ?_)
  · refine ev_goto (tgt := 1744) dL_law_687 (by decide) (eV.sub (lv' := lvL a b i) (lvL_in rfl rfl rfl rfl rfl) rfl ?_)
    exact K g' n1 _ _ hJ (by omega) (by omega)
  · have ej := nI_zero (by omega) q
    refine ev_aload_n dL_law_675 rfl rfl ?_
    refine ev_iconst (v := nI 0) dL_law_676 rfl ?_
    refine ev_laloadN dL_law_677 hF (by omega) (by decide) ?_
    refine ev_iload dL_law_678 rfl ?_
    refine ev_i2l dL_law_680 rfl ?_
    refine ev_lcmp dL_law_681 ?_
    refine ev_if_eq (tgt := 687) dL_law_682 (by decide) (fun _ => ?_) (fun q => absurd (by rw [hF0 ej]; exact lg_cmp_self _) q)
    refine ev_goto (tgt := 1744) dL_law_687 (by decide) (eV.sub (lv' := lvL a b i) (lvL_in rfl rfl rfl rfl rfl) rfl ?_)
    exact K g' n1 _ _ hJ (by omega) (by omega)
set_option maxHeartbeats 1000000 in
theorem lc_person {mn : String} {tb : List ExceptionTableEntry} {a b L i n c0 s0 mc ms : Nat} {xs : Nat → Int32} {h : eH} {r : eRes} {J' : eH → Prop} (hL : L ≤ 2560) (hi : i + 5 ≤ L) (hmc : c0 + 1 ≤ mc ∧ s0 + 6 ≤ ms) (hs : eStep kL_person kX11_person [.ref b, .int (xs (i + 1)), .int (xs (i + 2)), .int (xs (i + 3)), .ref (b + 326)] [.ref (b + 317), .int (xs (i + 1)), .int (xs (i + 2)), .int (xs (i + 3))] b h n J') (K : ∀ (g : eH) (n' c' s' : Nat), J' g → c' ≤ c0 + 1 → s' ≤ s0 + 6 → eV (mLw mn tb a L xs) 1744 (lvL a b i) [] (g, n', c', s') r mc ms) : eV (mLw mn tb a L xs) 690 (lvL a b i) [] (h, n, c0, s0) r mc ms := by
  obtain ⟨j, P1, nn, c1, s1, hj, hc1, hs1, hw, hrest⟩ := hs
  refine ev_aload_n dL_law_690 rfl rfl ?_
  refine ev_aload_n dL_law_691 rfl rfl ?_
  refine ev_iload dL_law_692 rfl ?_
  refine ev_iconst (v := nI 1) dL_law_694 rfl ?_
  refine ev_iaddN dL_law_695 ?_
  refine ev_sldN dL_law_696 rfl (by omega) (by omega) ?_
  refine ev_aload_n dL_law_697 rfl rfl ?_
  refine ev_iload dL_law_698 rfl ?_
  refine ev_iconst (v := nI 2) dL_law_700 rfl ?_
  refine ev_iaddN dL_law_701 ?_
  refine ev_sldN dL_law_702 rfl (by omega) (by omega) ?_
  refine ev_aload_n dL_law_703 rfl rfl ?_
  refine ev_iload dL_law_704 rfl ?_
  refine ev_iconst (v := nI 3) dL_law_706 rfl ?_
  refine ev_iaddN dL_law_707 ?_
  refine ev_sldN dL_law_708 rfl (by omega) (by omega) ?_
  refine ev_aload_n dL_law_709 rfl rfl ?_
  refine ev_callSW (n1 := 0) dL_law_710 hw lk_L_133 ⟨Nat.le_of_ble_eq_true rfl, Nat.le_of_ble_eq_true rfl⟩ rfl (Nat.le_of_ble_eq_true rfl) ⟨by omega, by omega⟩ (fun n1 g _ hg => ?_)
  obtain ⟨⟨z, hz⟩, v, P2, hm, hrest2⟩ := hrest g n1 hg
  refine ev_istore dL_law_713 (Nat.le_of_ble_eq_true rfl) ?_
  refine ev_aload_n dL_law_715 rfl rfl ?_
  refine ev_aload_n dL_law_716 rfl rfl ?_
  refine ev_iload dL_law_717 rfl ?_
  refine ev_iconst (v := nI 1) dL_law_719 rfl ?_
  refine ev_iaddN dL_law_720 ?_
  refine ev_sldN dL_law_721 rfl (by omega) (by omega) ?_
  refine ev_aload_n dL_law_722 rfl rfl ?_
  refine ev_iload dL_law_723 rfl ?_
  refine ev_iconst (v := nI 2) dL_law_725 rfl ?_
  refine ev_iaddN dL_law_726 ?_
  refine ev_sldN dL_law_727 rfl (by omega) (by omega) ?_
  refine ev_aload_n dL_law_728 rfl rfl ?_
  refine ev_iload dL_law_729 rfl ?_
  refine ev_iconst (v := nI 3) dL_law_731 rfl ?_
  refine ev_iaddN dL_law_732 ?_
  refine ev_sldN dL_law_733 rfl (by omega) (by omega) ?_
  refine ev_callVi dL_law_734 hm rfl lk_L_136 hz ⟨Nat.le_of_ble_eq_true rfl, Nat.le_of_ble_eq_true rfl⟩ rfl (Nat.le_of_ble_eq_true rfl) ⟨by omega, by omega⟩ (fun g' hg' => ?_)
  obtain ⟨⟨bc, l0, ap, gd, lo, lr, hB⟩, ⟨F, hF, hF0⟩, hJ⟩ := hrest2 g' hg'
  refine ev_istore dL_law_737 (Nat.le_of_ble_eq_true rfl) ?_
  refine ev_aload_n dL_law_739 rfl rfl ?_
  refine ev_callVi dL_law_740 (c_X11_thrown hB) rfl lk_L_98 hB.ob ⟨Nat.le_of_ble_eq_true rfl, Nat.le_of_ble_eq_true rfl⟩ rfl (Nat.le_of_ble_eq_true rfl) ⟨by omega, by omega⟩ (eRo ?_)
  refine ev_iload dL_law_743 rfl ?_
  refine ev_icmp_eq (tgt := 750) dL_law_745 (by decide) (fun _ => ?_) (fun q => absurd rfl q)
  refine ev_iload dL_law_750 rfl ?_
  refine ev_if_ne (tgt := 767) dL_law_752 (by decide) (fun _ => ?_) (fun q => ?_)
  · refine ev_goto (tgt := 1744) dL_law_767 (by decide) (eV.sub (lv' := lvL a b i) (lvL_in rfl rfl rfl rfl rfl) rfl ?_)
    exact K g' n1 _ _ hJ (by omega) (by omega)
  · have ej := nI_zero (by omega) q
    refine ev_aload_n dL_law_755 rfl rfl ?_
    refine ev_iconst (v := nI 0) dL_law_756 rfl ?_
    refine ev_laloadN dL_law_757 hF (by omega) (by decide) ?_
    refine ev_iload dL_law_758 rfl ?_
    refine ev_i2l dL_law_760 rfl ?_
    refine ev_lcmp dL_law_761 ?_
    refine ev_if_eq (tgt := 767) dL_law_762 (by decide) (fun _ => ?_) (fun q => absurd (by rw [hF0 ej]; exact lg_cmp_self _) q)
    refine ev_goto (tgt := 1744) dL_law_767 (by decide) (eV.sub (lv' := lvL a b i) (lvL_in rfl rfl rfl rfl rfl) rfl ?_)
    exact K g' n1 _ _ hJ (by omega) (by omega)
set_option maxHeartbeats 1000000 in
theorem lc_sit {mn : String} {tb : List ExceptionTableEntry} {a b L i n c0 s0 mc ms : Nat} {xs : Nat → Int32} {h : eH} {r : eRes} {J' : eH → Prop} (hL : L ≤ 2560) (hi : i + 5 ≤ L) (hmc : c0 + 1 ≤ mc ∧ s0 + 6 ≤ ms) (hs : eStep kL_sit kX11_sit [.ref b, .int (xs (i + 1)), .int (xs (i + 2)), .ref (b + 326)] [.ref (b + 317), .int (xs (i + 1)), .int (xs (i + 2))] b h n J') (K : ∀ (g : eH) (n' c' s' : Nat), J' g → c' ≤ c0 + 1 → s' ≤ s0 + 6 → eV (mLw mn tb a L xs) 1744 (lvL a b i) [] (g, n', c', s') r mc ms) : eV (mLw mn tb a L xs) 770 (lvL a b i) [] (h, n, c0, s0) r mc ms := by
  obtain ⟨j, P1, nn, c1, s1, hj, hc1, hs1, hw, hrest⟩ := hs
  refine ev_aload_n dL_law_770 rfl rfl ?_
  refine ev_aload_n dL_law_771 rfl rfl ?_
  refine ev_iload dL_law_772 rfl ?_
  refine ev_iconst (v := nI 1) dL_law_774 rfl ?_
  refine ev_iaddN dL_law_775 ?_
  refine ev_sldN dL_law_776 rfl (by omega) (by omega) ?_
  refine ev_aload_n dL_law_777 rfl rfl ?_
  refine ev_iload dL_law_778 rfl ?_
  refine ev_iconst (v := nI 2) dL_law_780 rfl ?_
  refine ev_iaddN dL_law_781 ?_
  refine ev_sldN dL_law_782 rfl (by omega) (by omega) ?_
  refine ev_aload_n dL_law_783 rfl rfl ?_
  refine ev_callSW (n1 := 0) dL_law_784 hw lk_L_137 ⟨Nat.le_of_ble_eq_true rfl, Nat.le_of_ble_eq_true rfl⟩ rfl (Nat.le_of_ble_eq_true rfl) ⟨by omega, by omega⟩ (fun n1 g _ hg => ?_)
  obtain ⟨⟨z, hz⟩, v, P2, hm, hrest2⟩ := hrest g n1 hg
  refine ev_istore dL_law_787 (Nat.le_of_ble_eq_true rfl) ?_
  refine ev_aload_n dL_law_789 rfl rfl ?_
  refine ev_aload_n dL_law_790 rfl rfl ?_
  refine ev_iload dL_law_791 rfl ?_
  refine ev_iconst (v := nI 1) dL_law_793 rfl ?_
  refine ev_iaddN dL_law_794 ?_
  refine ev_sldN dL_law_795 rfl (by omega) (by omega) ?_
  refine ev_aload_n dL_law_796 rfl rfl ?_
  refine ev_iload dL_law_797 rfl ?_
  refine ev_iconst (v := nI 2) dL_law_799 rfl ?_
  refine ev_iaddN dL_law_800 ?_
  refine ev_sldN dL_law_801 rfl (by omega) (by omega) ?_
  refine ev_callVi dL_law_802 hm rfl lk_L_139 hz ⟨Nat.le_of_ble_eq_true rfl, Nat.le_of_ble_eq_true rfl⟩ rfl (Nat.le_of_ble_eq_true rfl) ⟨by omega, by omega⟩ (fun g' hg' => ?_)
  obtain ⟨⟨bc, l0, ap, gd, lo, lr, hB⟩, ⟨F, hF, hF0⟩, hJ⟩ := hrest2 g' hg'
  refine ev_istore dL_law_805 (Nat.le_of_ble_eq_true rfl) ?_
  refine ev_aload_n dL_law_807 rfl rfl ?_
  refine ev_callVi dL_law_808 (c_X11_thrown hB) rfl lk_L_98 hB.ob ⟨Nat.le_of_ble_eq_true rfl, Nat.le_of_ble_eq_true rfl⟩ rfl (Nat.le_of_ble_eq_true rfl) ⟨by omega, by omega⟩ (eRo ?_)
  refine ev_iload dL_law_811 rfl ?_
  refine ev_icmp_eq (tgt := 818) dL_law_813 (by decide) (fun _ => ?_) (fun q => absurd rfl q)
  refine ev_iload dL_law_818 rfl ?_
  refine ev_if_ne (tgt := 835) dL_law_820 (by decide) (fun _ => ?_) (fun q => ?_)
  · refine ev_goto (tgt := 1744) dL_law_835 (by decide) (eV.sub (lv' := lvL a b i) (lvL_in rfl rfl rfl rfl rfl) rfl ?_)
    exact K g' n1 _ _ hJ (by omega) (by omega)
  · have ej := nI_zero (by omega) q
    refine ev_aload_n dL_law_823 rfl rfl ?_
    refine ev_iconst (v := nI 0) dL_law_824 rfl ?_
    refine ev_laloadN dL_law_825 hF (by omega) (by decide) ?_
    refine ev_iload dL_law_826 rfl ?_
    refine ev_i2l dL_law_828 rfl ?_
    refine ev_lcmp dL_law_829 ?_
    refine ev_if_eq (tgt := 835) dL_law_830 (by decide) (fun _ => ?_) (fun q => absurd (by rw [hF0 ej]; exact lg_cmp_self _) q)
    refine ev_goto (tgt := 1744) dL_law_835 (by decide) (eV.sub (lv' := lvL a b i) (lvL_in rfl rfl rfl rfl rfl) rfl ?_)
    exact K g' n1 _ _ hJ (by omega) (by omega)
set_option maxHeartbeats 1000000 in
theorem lc_give {mn : String} {tb : List ExceptionTableEntry} {a b L i n c0 s0 mc ms : Nat} {xs : Nat → Int32} {h : eH} {r : eRes} {J' : eH → Prop} (hL : L ≤ 2560) (hi : i + 5 ≤ L) (hmc : c0 + 1 ≤ mc ∧ s0 + 6 ≤ ms) (hs : eStep kL_give kX11_give [.ref b, .int (xs (i + 1)), .int (xs (i + 2)), .int (xs (i + 3)), .int (xs (i + 4)), .ref (b + 326)] [.ref (b + 317), .int (xs (i + 1)), .int (xs (i + 2)), .int (xs (i + 3)), .int (xs (i + 4))] b h n J') (K : ∀ (g : eH) (n' c' s' : Nat), J' g → c' ≤ c0 + 1 → s' ≤ s0 + 6 → eV (mLw mn tb a L xs) 1744 (lvL a b i) [] (g, n', c', s') r mc ms) : eV (mLw mn tb a L xs) 838 (lvL a b i) [] (h, n, c0, s0) r mc ms := by
  obtain ⟨j, P1, nn, c1, s1, hj, hc1, hs1, hw, hrest⟩ := hs
  refine ev_aload_n dL_law_838 rfl rfl ?_
  refine ev_aload_n dL_law_839 rfl rfl ?_
  refine ev_iload dL_law_840 rfl ?_
  refine ev_iconst (v := nI 1) dL_law_842 rfl ?_
  refine ev_iaddN dL_law_843 ?_
  refine ev_sldN dL_law_844 rfl (by omega) (by omega) ?_
  refine ev_aload_n dL_law_845 rfl rfl ?_
  refine ev_iload dL_law_846 rfl ?_
  refine ev_iconst (v := nI 2) dL_law_848 rfl ?_
  refine ev_iaddN dL_law_849 ?_
  refine ev_sldN dL_law_850 rfl (by omega) (by omega) ?_
  refine ev_aload_n dL_law_851 rfl rfl ?_
  refine ev_iload dL_law_852 rfl ?_
  refine ev_iconst (v := nI 3) dL_law_854 rfl ?_
  refine ev_iaddN dL_law_855 ?_
  refine ev_sldN dL_law_856 rfl (by omega) (by omega) ?_
  refine ev_aload_n dL_law_857 rfl rfl ?_
  refine ev_iload dL_law_858 rfl ?_
  refine ev_iconst (v := nI 4) dL_law_860 rfl ?_
  refine ev_iaddN dL_law_861 ?_
  refine ev_sldN dL_law_862 rfl (by omega) (by omega) ?_
  refine ev_aload_n dL_law_863 rfl rfl ?_
  refine ev_callSW (n1 := 0) dL_law_864 hw lk_L_140 ⟨Nat.le_of_ble_eq_true rfl, Nat.le_of_ble_eq_true rfl⟩ rfl (Nat.le_of_ble_eq_true rfl) ⟨by omega, by omega⟩ (fun n1 g _ hg => ?_)
  obtain ⟨⟨z, hz⟩, v, P2, hm, hrest2⟩ := hrest g n1 hg
  refine ev_istore dL_law_867 (Nat.le_of_ble_eq_true rfl) ?_
  refine ev_aload_n dL_law_869 rfl rfl ?_
  refine ev_aload_n dL_law_870 rfl rfl ?_
  refine ev_iload dL_law_871 rfl ?_
  refine ev_iconst (v := nI 1) dL_law_873 rfl ?_
  refine ev_iaddN dL_law_874 ?_
  refine ev_sldN dL_law_875 rfl (by omega) (by omega) ?_
  refine ev_aload_n dL_law_876 rfl rfl ?_
  refine ev_iload dL_law_877 rfl ?_
  refine ev_iconst (v := nI 2) dL_law_879 rfl ?_
  refine ev_iaddN dL_law_880 ?_
  refine ev_sldN dL_law_881 rfl (by omega) (by omega) ?_
  refine ev_aload_n dL_law_882 rfl rfl ?_
  refine ev_iload dL_law_883 rfl ?_
  refine ev_iconst (v := nI 3) dL_law_885 rfl ?_
  refine ev_iaddN dL_law_886 ?_
  refine ev_sldN dL_law_887 rfl (by omega) (by omega) ?_
  refine ev_aload_n dL_law_888 rfl rfl ?_
  refine ev_iload dL_law_889 rfl ?_
  refine ev_iconst (v := nI 4) dL_law_891 rfl ?_
  refine ev_iaddN dL_law_892 ?_
  refine ev_sldN dL_law_893 rfl (by omega) (by omega) ?_
  refine ev_callVi dL_law_894 hm rfl lk_L_142 hz ⟨Nat.le_of_ble_eq_true rfl, Nat.le_of_ble_eq_true rfl⟩ rfl (Nat.le_of_ble_eq_true rfl) ⟨by omega, by omega⟩ (fun g' hg' => ?_)
  obtain ⟨⟨bc, l0, ap, gd, lo, lr, hB⟩, ⟨F, hF, hF0⟩, hJ⟩ := hrest2 g' hg'
  refine ev_istore dL_law_897 (Nat.le_of_ble_eq_true rfl) ?_
  refine ev_aload_n dL_law_899 rfl rfl ?_
  refine ev_callVi dL_law_900 (c_X11_thrown hB) rfl lk_L_98 hB.ob ⟨Nat.le_of_ble_eq_true rfl, Nat.le_of_ble_eq_true rfl⟩ rfl (Nat.le_of_ble_eq_true rfl) ⟨by omega, by omega⟩ (eRo ?_)
  refine ev_iload dL_law_903 rfl ?_
  refine ev_icmp_eq (tgt := 910) dL_law_905 (by decide) (fun _ => ?_) (fun q => absurd rfl q)
  refine ev_iload dL_law_910 rfl ?_
  refine ev_if_ne (tgt := 927) dL_law_912 (by decide) (fun _ => ?_) (fun q => ?_)
  · refine ev_goto (tgt := 1744) dL_law_927 (by decide) (eV.sub (lv' := lvL a b i) (lvL_in rfl rfl rfl rfl rfl) rfl ?_)
    exact K g' n1 _ _ hJ (by omega) (by omega)
  · have ej := nI_zero (by omega) q
    refine ev_aload_n dL_law_915 rfl rfl ?_
    refine ev_iconst (v := nI 0) dL_law_916 rfl ?_
    refine ev_laloadN dL_law_917 hF (by omega) (by decide) ?_
    refine ev_iload dL_law_918 rfl ?_
    refine ev_i2l dL_law_920 rfl ?_
    refine ev_lcmp dL_law_921 ?_
    refine ev_if_eq (tgt := 927) dL_law_922 (by decide) (fun _ => ?_) (fun q => absurd (by rw [hF0 ej]; exact lg_cmp_self _) q)
    refine ev_goto (tgt := 1744) dL_law_927 (by decide) (eV.sub (lv' := lvL a b i) (lvL_in rfl rfl rfl rfl rfl) rfl ?_)
    exact K g' n1 _ _ hJ (by omega) (by omega)
set_option maxHeartbeats 1000000 in
theorem lc_call {mn : String} {tb : List ExceptionTableEntry} {a b L i n c0 s0 mc ms : Nat} {xs : Nat → Int32} {h : eH} {r : eRes} {J' : eH → Prop} (hL : L ≤ 2560) (hi : i + 5 ≤ L) (hmc : c0 + 1 ≤ mc ∧ s0 + 6 ≤ ms) (hs : eStep kL_call kX11_call [.ref b, .int (xs (i + 1)), .int (xs (i + 2)), .int (xs (i + 3)), .ref (b + 326)] [.ref (b + 317), .int (xs (i + 1)), .int (xs (i + 2)), .int (xs (i + 3))] b h n J') (K : ∀ (g : eH) (n' c' s' : Nat), J' g → c' ≤ c0 + 1 → s' ≤ s0 + 6 → eV (mLw mn tb a L xs) 1744 (lvL a b i) [] (g, n', c', s') r mc ms) : eV (mLw mn tb a L xs) 930 (lvL a b i) [] (h, n, c0, s0) r mc ms := by
  obtain ⟨j, P1, nn, c1, s1, hj, hc1, hs1, hw, hrest⟩ := hs
  refine ev_aload_n dL_law_930 rfl rfl ?_
  refine ev_aload_n dL_law_931 rfl rfl ?_
  refine ev_iload dL_law_932 rfl ?_
  refine ev_iconst (v := nI 1) dL_law_934 rfl ?_
  refine ev_iaddN dL_law_935 ?_
  refine ev_sldN dL_law_936 rfl (by omega) (by omega) ?_
  refine ev_aload_n dL_law_937 rfl rfl ?_
  refine ev_iload dL_law_938 rfl ?_
  refine ev_iconst (v := nI 2) dL_law_940 rfl ?_
  refine ev_iaddN dL_law_941 ?_
  refine ev_sldN dL_law_942 rfl (by omega) (by omega) ?_
  refine ev_aload_n dL_law_943 rfl rfl ?_
  refine ev_iload dL_law_944 rfl ?_
  refine ev_iconst (v := nI 3) dL_law_946 rfl ?_
  refine ev_iaddN dL_law_947 ?_
  refine ev_sldN dL_law_948 rfl (by omega) (by omega) ?_
  refine ev_aload_n dL_law_949 rfl rfl ?_
  refine ev_callSW (n1 := 0) dL_law_950 hw lk_L_143 ⟨Nat.le_of_ble_eq_true rfl, Nat.le_of_ble_eq_true rfl⟩ rfl (Nat.le_of_ble_eq_true rfl) ⟨by omega, by omega⟩ (fun n1 g _ hg => ?_)
  obtain ⟨⟨z, hz⟩, v, P2, hm, hrest2⟩ := hrest g n1 hg
  refine ev_istore dL_law_953 (Nat.le_of_ble_eq_true rfl) ?_
  refine ev_aload_n dL_law_955 rfl rfl ?_
  refine ev_aload_n dL_law_956 rfl rfl ?_
  refine ev_iload dL_law_957 rfl ?_
  refine ev_iconst (v := nI 1) dL_law_959 rfl ?_
  refine ev_iaddN dL_law_960 ?_
  refine ev_sldN dL_law_961 rfl (by omega) (by omega) ?_
  refine ev_aload_n dL_law_962 rfl rfl ?_
  refine ev_iload dL_law_963 rfl ?_
  refine ev_iconst (v := nI 2) dL_law_965 rfl ?_
  refine ev_iaddN dL_law_966 ?_
  refine ev_sldN dL_law_967 rfl (by omega) (by omega) ?_
  refine ev_aload_n dL_law_968 rfl rfl ?_
  refine ev_iload dL_law_969 rfl ?_
  refine ev_iconst (v := nI 3) dL_law_971 rfl ?_
  refine ev_iaddN dL_law_972 ?_
  refine ev_sldN dL_law_973 rfl (by omega) (by omega) ?_
  refine ev_callVi dL_law_974 hm rfl lk_L_145 hz ⟨Nat.le_of_ble_eq_true rfl, Nat.le_of_ble_eq_true rfl⟩ rfl (Nat.le_of_ble_eq_true rfl) ⟨by omega, by omega⟩ (fun g' hg' => ?_)
  obtain ⟨⟨bc, l0, ap, gd, lo, lr, hB⟩, ⟨F, hF, hF0⟩, hJ⟩ := hrest2 g' hg'
  refine ev_istore dL_law_977 (Nat.le_of_ble_eq_true rfl) ?_
  refine ev_aload_n dL_law_979 rfl rfl ?_
  refine ev_callVi dL_law_980 (c_X11_thrown hB) rfl lk_L_98 hB.ob ⟨Nat.le_of_ble_eq_true rfl, Nat.le_of_ble_eq_true rfl⟩ rfl (Nat.le_of_ble_eq_true rfl) ⟨by omega, by omega⟩ (eRo ?_)
  refine ev_iload dL_law_983 rfl ?_
  refine ev_icmp_eq (tgt := 990) dL_law_985 (by decide) (fun _ => ?_) (fun q => absurd rfl q)
  refine ev_iload dL_law_990 rfl ?_
  refine ev_if_ne (tgt := 1007) dL_law_992 (by decide) (fun _ => ?_) (fun q => ?_)
  · refine ev_goto (tgt := 1744) dL_law_1007 (by decide) (eV.sub (lv' := lvL a b i) (lvL_in rfl rfl rfl rfl rfl) rfl ?_)
    exact K g' n1 _ _ hJ (by omega) (by omega)
  · have ej := nI_zero (by omega) q
    refine ev_aload_n dL_law_995 rfl rfl ?_
    refine ev_iconst (v := nI 0) dL_law_996 rfl ?_
    refine ev_laloadN dL_law_997 hF (by omega) (by decide) ?_
    refine ev_iload dL_law_998 rfl ?_
    refine ev_i2l dL_law_1000 rfl ?_
    refine ev_lcmp dL_law_1001 ?_
    refine ev_if_eq (tgt := 1007) dL_law_1002 (by decide) (fun _ => ?_) (fun q => absurd (by rw [hF0 ej]; exact lg_cmp_self _) q)
    refine ev_goto (tgt := 1744) dL_law_1007 (by decide) (eV.sub (lv' := lvL a b i) (lvL_in rfl rfl rfl rfl rfl) rfl ?_)
    exact K g' n1 _ _ hJ (by omega) (by omega)
set_option maxHeartbeats 1000000 in
theorem lc_years {mn : String} {tb : List ExceptionTableEntry} {a b L i n c0 s0 mc ms : Nat} {xs : Nat → Int32} {h : eH} {r : eRes} {J' : eH → Prop} (hL : L ≤ 2560) (hi : i + 5 ≤ L) (hmc : c0 + 1 ≤ mc ∧ s0 + 6 ≤ ms) (hs : eStep kL_years kX11_years [.ref b, .int (xs (i + 1)), .ref (b + 326)] [.ref (b + 317), .int (xs (i + 1))] b h n J') (K : ∀ (g : eH) (n' c' s' : Nat), J' g → c' ≤ c0 + 1 → s' ≤ s0 + 6 → eV (mLw mn tb a L xs) 1744 (lvL a b i) [] (g, n', c', s') r mc ms) : eV (mLw mn tb a L xs) 1010 (lvL a b i) [] (h, n, c0, s0) r mc ms := by
  obtain ⟨j, P1, nn, c1, s1, hj, hc1, hs1, hw, hrest⟩ := hs
  refine ev_aload_n dL_law_1010 rfl rfl ?_
  refine ev_aload_n dL_law_1011 rfl rfl ?_
  refine ev_iload dL_law_1012 rfl ?_
  refine ev_iconst (v := nI 1) dL_law_1014 rfl ?_
  refine ev_iaddN dL_law_1015 ?_
  refine ev_sldN dL_law_1016 rfl (by omega) (by omega) ?_
  refine ev_aload_n dL_law_1017 rfl rfl ?_
  refine ev_callSW (n1 := 0) dL_law_1018 hw lk_L_146 ⟨Nat.le_of_ble_eq_true rfl, Nat.le_of_ble_eq_true rfl⟩ rfl (Nat.le_of_ble_eq_true rfl) ⟨by omega, by omega⟩ (fun n1 g _ hg => ?_)
  obtain ⟨⟨z, hz⟩, v, P2, hm, hrest2⟩ := hrest g n1 hg
  refine ev_istore dL_law_1021 (Nat.le_of_ble_eq_true rfl) ?_
  refine ev_aload_n dL_law_1023 rfl rfl ?_
  refine ev_aload_n dL_law_1024 rfl rfl ?_
  refine ev_iload dL_law_1025 rfl ?_
  refine ev_iconst (v := nI 1) dL_law_1027 rfl ?_
  refine ev_iaddN dL_law_1028 ?_
  refine ev_sldN dL_law_1029 rfl (by omega) (by omega) ?_
  refine ev_callVi dL_law_1030 hm rfl lk_L_148 hz ⟨Nat.le_of_ble_eq_true rfl, Nat.le_of_ble_eq_true rfl⟩ rfl (Nat.le_of_ble_eq_true rfl) ⟨by omega, by omega⟩ (fun g' hg' => ?_)
  obtain ⟨⟨bc, l0, ap, gd, lo, lr, hB⟩, ⟨F, hF, hF0⟩, hJ⟩ := hrest2 g' hg'
  refine ev_istore dL_law_1033 (Nat.le_of_ble_eq_true rfl) ?_
  refine ev_aload_n dL_law_1035 rfl rfl ?_
  refine ev_callVi dL_law_1036 (c_X11_thrown hB) rfl lk_L_98 hB.ob ⟨Nat.le_of_ble_eq_true rfl, Nat.le_of_ble_eq_true rfl⟩ rfl (Nat.le_of_ble_eq_true rfl) ⟨by omega, by omega⟩ (eRo ?_)
  refine ev_iload dL_law_1039 rfl ?_
  refine ev_icmp_eq (tgt := 1046) dL_law_1041 (by decide) (fun _ => ?_) (fun q => absurd rfl q)
  refine ev_iload dL_law_1046 rfl ?_
  refine ev_if_ne (tgt := 1063) dL_law_1048 (by decide) (fun _ => ?_) (fun q => ?_)
  · refine ev_goto (tgt := 1744) dL_law_1063 (by decide) (eV.sub (lv' := lvL a b i) (lvL_in rfl rfl rfl rfl rfl) rfl ?_)
    exact K g' n1 _ _ hJ (by omega) (by omega)
  · have ej := nI_zero (by omega) q
    refine ev_aload_n dL_law_1051 rfl rfl ?_
    refine ev_iconst (v := nI 0) dL_law_1052 rfl ?_
    refine ev_laloadN dL_law_1053 hF (by omega) (by decide) ?_
    refine ev_iload dL_law_1054 rfl ?_
    refine ev_i2l dL_law_1056 rfl ?_
    refine ev_lcmp dL_law_1057 ?_
    refine ev_if_eq (tgt := 1063) dL_law_1058 (by decide) (fun _ => ?_) (fun q => absurd (by rw [hF0 ej]; exact lg_cmp_self _) q)
    refine ev_goto (tgt := 1744) dL_law_1063 (by decide) (eV.sub (lv' := lvL a b i) (lvL_in rfl rfl rfl rfl rfl) rfl ?_)
    exact K g' n1 _ _ hJ (by omega) (by omega)
set_option maxHeartbeats 1000000 in
theorem lc_set {mn : String} {tb : List ExceptionTableEntry} {a b L i n c0 s0 mc ms : Nat} {xs : Nat → Int32} {h : eH} {r : eRes} {J' : eH → Prop} (hL : L ≤ 2560) (hi : i + 5 ≤ L) (hmc : c0 + 1 ≤ mc ∧ s0 + 6 ≤ ms) (hs : eStep kL_set kX11_set [.ref b, .int (xs (i + 1)), .int (xs (i + 2)), .ref (b + 326)] [.ref (b + 317), .int (xs (i + 1)), .int (xs (i + 2))] b h n J') (K : ∀ (g : eH) (n' c' s' : Nat), J' g → c' ≤ c0 + 1 → s' ≤ s0 + 6 → eV (mLw mn tb a L xs) 1744 (lvL a b i) [] (g, n', c', s') r mc ms) : eV (mLw mn tb a L xs) 1066 (lvL a b i) [] (h, n, c0, s0) r mc ms := by
  obtain ⟨j, P1, nn, c1, s1, hj, hc1, hs1, hw, hrest⟩ := hs
  refine ev_aload_n dL_law_1066 rfl rfl ?_
  refine ev_aload_n dL_law_1067 rfl rfl ?_
  refine ev_iload dL_law_1068 rfl ?_
  refine ev_iconst (v := nI 1) dL_law_1070 rfl ?_
  refine ev_iaddN dL_law_1071 ?_
  refine ev_sldN dL_law_1072 rfl (by omega) (by omega) ?_
  refine ev_aload_n dL_law_1073 rfl rfl ?_
  refine ev_iload dL_law_1074 rfl ?_
  refine ev_iconst (v := nI 2) dL_law_1076 rfl ?_
  refine ev_iaddN dL_law_1077 ?_
  refine ev_sldN dL_law_1078 rfl (by omega) (by omega) ?_
  refine ev_aload_n dL_law_1079 rfl rfl ?_
  refine ev_callSW (n1 := 0) dL_law_1080 hw lk_L_149 ⟨Nat.le_of_ble_eq_true rfl, Nat.le_of_ble_eq_true rfl⟩ rfl (Nat.le_of_ble_eq_true rfl) ⟨by omega, by omega⟩ (fun n1 g _ hg => ?_)
  obtain ⟨⟨z, hz⟩, v, P2, hm, hrest2⟩ := hrest g n1 hg
  refine ev_istore dL_law_1083 (Nat.le_of_ble_eq_true rfl) ?_
  refine ev_aload_n dL_law_1085 rfl rfl ?_
  refine ev_aload_n dL_law_1086 rfl rfl ?_
  refine ev_iload dL_law_1087 rfl ?_
  refine ev_iconst (v := nI 1) dL_law_1089 rfl ?_
  refine ev_iaddN dL_law_1090 ?_
  refine ev_sldN dL_law_1091 rfl (by omega) (by omega) ?_
  refine ev_aload_n dL_law_1092 rfl rfl ?_
  refine ev_iload dL_law_1093 rfl ?_
  refine ev_iconst (v := nI 2) dL_law_1095 rfl ?_
  refine ev_iaddN dL_law_1096 ?_
  refine ev_sldN dL_law_1097 rfl (by omega) (by omega) ?_
  refine ev_callVi dL_law_1098 hm rfl lk_L_151 hz ⟨Nat.le_of_ble_eq_true rfl, Nat.le_of_ble_eq_true rfl⟩ rfl (Nat.le_of_ble_eq_true rfl) ⟨by omega, by omega⟩ (fun g' hg' => ?_)
  obtain ⟨⟨bc, l0, ap, gd, lo, lr, hB⟩, ⟨F, hF, hF0⟩, hJ⟩ := hrest2 g' hg'
  refine ev_istore dL_law_1101 (Nat.le_of_ble_eq_true rfl) ?_
  refine ev_aload_n dL_law_1103 rfl rfl ?_
  refine ev_callVi dL_law_1104 (c_X11_thrown hB) rfl lk_L_98 hB.ob ⟨Nat.le_of_ble_eq_true rfl, Nat.le_of_ble_eq_true rfl⟩ rfl (Nat.le_of_ble_eq_true rfl) ⟨by omega, by omega⟩ (eRo ?_)
  refine ev_iload dL_law_1107 rfl ?_
  refine ev_icmp_eq (tgt := 1114) dL_law_1109 (by decide) (fun _ => ?_) (fun q => absurd rfl q)
  refine ev_iload dL_law_1114 rfl ?_
  refine ev_if_ne (tgt := 1131) dL_law_1116 (by decide) (fun _ => ?_) (fun q => ?_)
  · refine ev_goto (tgt := 1744) dL_law_1131 (by decide) (eV.sub (lv' := lvL a b i) (lvL_in rfl rfl rfl rfl rfl) rfl ?_)
    exact K g' n1 _ _ hJ (by omega) (by omega)
  · have ej := nI_zero (by omega) q
    refine ev_aload_n dL_law_1119 rfl rfl ?_
    refine ev_iconst (v := nI 0) dL_law_1120 rfl ?_
    refine ev_laloadN dL_law_1121 hF (by omega) (by decide) ?_
    refine ev_iload dL_law_1122 rfl ?_
    refine ev_i2l dL_law_1124 rfl ?_
    refine ev_lcmp dL_law_1125 ?_
    refine ev_if_eq (tgt := 1131) dL_law_1126 (by decide) (fun _ => ?_) (fun q => absurd (by rw [hF0 ej]; exact lg_cmp_self _) q)
    refine ev_goto (tgt := 1744) dL_law_1131 (by decide) (eV.sub (lv' := lvL a b i) (lvL_in rfl rfl rfl rfl rfl) rfl ?_)
    exact K g' n1 _ _ hJ (by omega) (by omega)
set_option maxHeartbeats 1000000 in
theorem lc_undo {mn : String} {tb : List ExceptionTableEntry} {a b L i n c0 s0 mc ms : Nat} {xs : Nat → Int32} {h : eH} {r : eRes} {J' : eH → Prop} (hL : L ≤ 2560) (hi : i + 5 ≤ L) (hmc : c0 + 1 ≤ mc ∧ s0 + 6 ≤ ms) (hs : eStep kL_undo kX11_undo [.ref b, .ref (b + 326)] [.ref (b + 317)] b h n J') (K : ∀ (g : eH) (n' c' s' : Nat), J' g → c' ≤ c0 + 1 → s' ≤ s0 + 6 → eV (mLw mn tb a L xs) 1744 (lvL a b i) [] (g, n', c', s') r mc ms) : eV (mLw mn tb a L xs) 1134 (lvL a b i) [] (h, n, c0, s0) r mc ms := by
  obtain ⟨j, P1, nn, c1, s1, hj, hc1, hs1, hw, hrest⟩ := hs
  refine ev_aload_n dL_law_1134 rfl rfl ?_
  refine ev_aload_n dL_law_1135 rfl rfl ?_
  refine ev_callSW (n1 := 0) dL_law_1136 hw lk_L_152 ⟨Nat.le_of_ble_eq_true rfl, Nat.le_of_ble_eq_true rfl⟩ rfl (Nat.le_of_ble_eq_true rfl) ⟨by omega, by omega⟩ (fun n1 g _ hg => ?_)
  obtain ⟨⟨z, hz⟩, v, P2, hm, hrest2⟩ := hrest g n1 hg
  refine ev_istore dL_law_1139 (Nat.le_of_ble_eq_true rfl) ?_
  refine ev_aload_n dL_law_1141 rfl rfl ?_
  refine ev_callVi dL_law_1142 hm rfl lk_L_154 hz ⟨Nat.le_of_ble_eq_true rfl, Nat.le_of_ble_eq_true rfl⟩ rfl (Nat.le_of_ble_eq_true rfl) ⟨by omega, by omega⟩ (fun g' hg' => ?_)
  obtain ⟨⟨bc, l0, ap, gd, lo, lr, hB⟩, ⟨F, hF, hF0⟩, hJ⟩ := hrest2 g' hg'
  refine ev_istore dL_law_1145 (Nat.le_of_ble_eq_true rfl) ?_
  refine ev_aload_n dL_law_1147 rfl rfl ?_
  refine ev_callVi dL_law_1148 (c_X11_thrown hB) rfl lk_L_98 hB.ob ⟨Nat.le_of_ble_eq_true rfl, Nat.le_of_ble_eq_true rfl⟩ rfl (Nat.le_of_ble_eq_true rfl) ⟨by omega, by omega⟩ (eRo ?_)
  refine ev_iload dL_law_1151 rfl ?_
  refine ev_icmp_eq (tgt := 1158) dL_law_1153 (by decide) (fun _ => ?_) (fun q => absurd rfl q)
  refine ev_iload dL_law_1158 rfl ?_
  refine ev_if_ne (tgt := 1175) dL_law_1160 (by decide) (fun _ => ?_) (fun q => ?_)
  · refine ev_goto (tgt := 1744) dL_law_1175 (by decide) (eV.sub (lv' := lvL a b i) (lvL_in rfl rfl rfl rfl rfl) rfl ?_)
    exact K g' n1 _ _ hJ (by omega) (by omega)
  · have ej := nI_zero (by omega) q
    refine ev_aload_n dL_law_1163 rfl rfl ?_
    refine ev_iconst (v := nI 0) dL_law_1164 rfl ?_
    refine ev_laloadN dL_law_1165 hF (by omega) (by decide) ?_
    refine ev_iload dL_law_1166 rfl ?_
    refine ev_i2l dL_law_1168 rfl ?_
    refine ev_lcmp dL_law_1169 ?_
    refine ev_if_eq (tgt := 1175) dL_law_1170 (by decide) (fun _ => ?_) (fun q => absurd (by rw [hF0 ej]; exact lg_cmp_self _) q)
    refine ev_goto (tgt := 1744) dL_law_1175 (by decide) (eV.sub (lv' := lvL a b i) (lvL_in rfl rfl rfl rfl rfl) rfl ?_)
    exact K g' n1 _ _ hJ (by omega) (by omega)
set_option maxHeartbeats 1000000 in
theorem lc_why {mn : String} {tb : List ExceptionTableEntry} {a b L i n c0 s0 mc ms : Nat} {xs : Nat → Int32} {h : eH} {r : eRes} {J' : eH → Prop} (hL : L ≤ 2560) (hi : i + 5 ≤ L) (hmc : c0 + 1 ≤ mc ∧ s0 + 6 ≤ ms) (hs : eStep kL_why kX11_why [.ref b, .int (xs (i + 1)), .int (xs (i + 2)), .int (xs (i + 3)), .int (xs (i + 4)), .ref (b + 326)] [.ref (b + 317), .int (xs (i + 1)), .int (xs (i + 2)), .int (xs (i + 3)), .int (xs (i + 4))] b h n J') (K : ∀ (g : eH) (n' c' s' : Nat), J' g → c' ≤ c0 + 1 → s' ≤ s0 + 6 → eV (mLw mn tb a L xs) 1744 (lvL a b i) [] (g, n', c', s') r mc ms) : eV (mLw mn tb a L xs) 1178 (lvL a b i) [] (h, n, c0, s0) r mc ms := by
  obtain ⟨j, P1, nn, c1, s1, hj, hc1, hs1, hw, hrest⟩ := hs
  refine ev_aload_n dL_law_1178 rfl rfl ?_
  refine ev_aload_n dL_law_1179 rfl rfl ?_
  refine ev_iload dL_law_1180 rfl ?_
  refine ev_iconst (v := nI 1) dL_law_1182 rfl ?_
  refine ev_iaddN dL_law_1183 ?_
  refine ev_sldN dL_law_1184 rfl (by omega) (by omega) ?_
  refine ev_aload_n dL_law_1185 rfl rfl ?_
  refine ev_iload dL_law_1186 rfl ?_
  refine ev_iconst (v := nI 2) dL_law_1188 rfl ?_
  refine ev_iaddN dL_law_1189 ?_
  refine ev_sldN dL_law_1190 rfl (by omega) (by omega) ?_
  refine ev_aload_n dL_law_1191 rfl rfl ?_
  refine ev_iload dL_law_1192 rfl ?_
  refine ev_iconst (v := nI 3) dL_law_1194 rfl ?_
  refine ev_iaddN dL_law_1195 ?_
  refine ev_sldN dL_law_1196 rfl (by omega) (by omega) ?_
  refine ev_aload_n dL_law_1197 rfl rfl ?_
  refine ev_iload dL_law_1198 rfl ?_
  refine ev_iconst (v := nI 4) dL_law_1200 rfl ?_
  refine ev_iaddN dL_law_1201 ?_
  refine ev_sldN dL_law_1202 rfl (by omega) (by omega) ?_
  refine ev_aload_n dL_law_1203 rfl rfl ?_
  refine ev_callSW (n1 := 0) dL_law_1204 hw lk_L_155 ⟨Nat.le_of_ble_eq_true rfl, Nat.le_of_ble_eq_true rfl⟩ rfl (Nat.le_of_ble_eq_true rfl) ⟨by omega, by omega⟩ (fun n1 g _ hg => ?_)
  obtain ⟨⟨z, hz⟩, v, P2, hm, hrest2⟩ := hrest g n1 hg
  refine ev_istore dL_law_1207 (Nat.le_of_ble_eq_true rfl) ?_
  refine ev_aload_n dL_law_1209 rfl rfl ?_
  refine ev_aload_n dL_law_1210 rfl rfl ?_
  refine ev_iload dL_law_1211 rfl ?_
  refine ev_iconst (v := nI 1) dL_law_1213 rfl ?_
  refine ev_iaddN dL_law_1214 ?_
  refine ev_sldN dL_law_1215 rfl (by omega) (by omega) ?_
  refine ev_aload_n dL_law_1216 rfl rfl ?_
  refine ev_iload dL_law_1217 rfl ?_
  refine ev_iconst (v := nI 2) dL_law_1219 rfl ?_
  refine ev_iaddN dL_law_1220 ?_
  refine ev_sldN dL_law_1221 rfl (by omega) (by omega) ?_
  refine ev_aload_n dL_law_1222 rfl rfl ?_
  refine ev_iload dL_law_1223 rfl ?_
  refine ev_iconst (v := nI 3) dL_law_1225 rfl ?_
  refine ev_iaddN dL_law_1226 ?_
  refine ev_sldN dL_law_1227 rfl (by omega) (by omega) ?_
  refine ev_aload_n dL_law_1228 rfl rfl ?_
  refine ev_iload dL_law_1229 rfl ?_
  refine ev_iconst (v := nI 4) dL_law_1231 rfl ?_
  refine ev_iaddN dL_law_1232 ?_
  refine ev_sldN dL_law_1233 rfl (by omega) (by omega) ?_
  refine ev_callVi dL_law_1234 hm rfl lk_L_157 hz ⟨Nat.le_of_ble_eq_true rfl, Nat.le_of_ble_eq_true rfl⟩ rfl (Nat.le_of_ble_eq_true rfl) ⟨by omega, by omega⟩ (fun g' hg' => ?_)
  obtain ⟨⟨bc, l0, ap, gd, lo, lr, hB⟩, ⟨F, hF, hF0⟩, hJ⟩ := hrest2 g' hg'
  refine ev_istore dL_law_1237 (Nat.le_of_ble_eq_true rfl) ?_
  refine ev_aload_n dL_law_1239 rfl rfl ?_
  refine ev_callVi dL_law_1240 (c_X11_thrown hB) rfl lk_L_98 hB.ob ⟨Nat.le_of_ble_eq_true rfl, Nat.le_of_ble_eq_true rfl⟩ rfl (Nat.le_of_ble_eq_true rfl) ⟨by omega, by omega⟩ (eRo ?_)
  refine ev_iload dL_law_1243 rfl ?_
  refine ev_icmp_eq (tgt := 1250) dL_law_1245 (by decide) (fun _ => ?_) (fun q => absurd rfl q)
  refine ev_iload dL_law_1250 rfl ?_
  refine ev_if_ne (tgt := 1267) dL_law_1252 (by decide) (fun _ => ?_) (fun q => ?_)
  · refine ev_goto (tgt := 1744) dL_law_1267 (by decide) (eV.sub (lv' := lvL a b i) (lvL_in rfl rfl rfl rfl rfl) rfl ?_)
    exact K g' n1 _ _ hJ (by omega) (by omega)
  · have ej := nI_zero (by omega) q
    refine ev_aload_n dL_law_1255 rfl rfl ?_
    refine ev_iconst (v := nI 0) dL_law_1256 rfl ?_
    refine ev_laloadN dL_law_1257 hF (by omega) (by decide) ?_
    refine ev_iload dL_law_1258 rfl ?_
    refine ev_i2l dL_law_1260 rfl ?_
    refine ev_lcmp dL_law_1261 ?_
    refine ev_if_eq (tgt := 1267) dL_law_1262 (by decide) (fun _ => ?_) (fun q => absurd (by rw [hF0 ej]; exact lg_cmp_self _) q)
    refine ev_goto (tgt := 1744) dL_law_1267 (by decide) (eV.sub (lv' := lvL a b i) (lvL_in rfl rfl rfl rfl rfl) rfl ?_)
    exact K g' n1 _ _ hJ (by omega) (by omega)
set_option maxHeartbeats 1000000 in
theorem lc_endsIn {mn : String} {tb : List ExceptionTableEntry} {a b L i n c0 s0 mc ms : Nat} {xs : Nat → Int32} {h : eH} {r : eRes} {J' : eH → Prop} (hL : L ≤ 2560) (hi : i + 5 ≤ L) (hmc : c0 + 1 ≤ mc ∧ s0 + 6 ≤ ms) (hs : eStep kL_endsIn kX11_endsIn [.ref b, .int (xs (i + 1)), .ref (b + 326)] [.ref (b + 317), .int (xs (i + 1))] b h n J') (K : ∀ (g : eH) (n' c' s' : Nat), J' g → c' ≤ c0 + 1 → s' ≤ s0 + 6 → eV (mLw mn tb a L xs) 1744 (lvL a b i) [] (g, n', c', s') r mc ms) : eV (mLw mn tb a L xs) 1270 (lvL a b i) [] (h, n, c0, s0) r mc ms := by
  obtain ⟨j, P1, nn, c1, s1, hj, hc1, hs1, hw, hrest⟩ := hs
  refine ev_aload_n dL_law_1270 rfl rfl ?_
  refine ev_aload_n dL_law_1271 rfl rfl ?_
  refine ev_iload dL_law_1272 rfl ?_
  refine ev_iconst (v := nI 1) dL_law_1274 rfl ?_
  refine ev_iaddN dL_law_1275 ?_
  refine ev_sldN dL_law_1276 rfl (by omega) (by omega) ?_
  refine ev_aload_n dL_law_1277 rfl rfl ?_
  refine ev_callSW (n1 := 0) dL_law_1278 hw lk_L_158 ⟨Nat.le_of_ble_eq_true rfl, Nat.le_of_ble_eq_true rfl⟩ rfl (Nat.le_of_ble_eq_true rfl) ⟨by omega, by omega⟩ (fun n1 g _ hg => ?_)
  obtain ⟨⟨z, hz⟩, v, P2, hm, hrest2⟩ := hrest g n1 hg
  refine ev_istore dL_law_1281 (Nat.le_of_ble_eq_true rfl) ?_
  refine ev_aload_n dL_law_1283 rfl rfl ?_
  refine ev_aload_n dL_law_1284 rfl rfl ?_
  refine ev_iload dL_law_1285 rfl ?_
  refine ev_iconst (v := nI 1) dL_law_1287 rfl ?_
  refine ev_iaddN dL_law_1288 ?_
  refine ev_sldN dL_law_1289 rfl (by omega) (by omega) ?_
  refine ev_callVi dL_law_1290 hm rfl lk_L_160 hz ⟨Nat.le_of_ble_eq_true rfl, Nat.le_of_ble_eq_true rfl⟩ rfl (Nat.le_of_ble_eq_true rfl) ⟨by omega, by omega⟩ (fun g' hg' => ?_)
  obtain ⟨⟨bc, l0, ap, gd, lo, lr, hB⟩, ⟨F, hF, hF0⟩, hJ⟩ := hrest2 g' hg'
  refine ev_istore dL_law_1293 (Nat.le_of_ble_eq_true rfl) ?_
  refine ev_aload_n dL_law_1295 rfl rfl ?_
  refine ev_callVi dL_law_1296 (c_X11_thrown hB) rfl lk_L_98 hB.ob ⟨Nat.le_of_ble_eq_true rfl, Nat.le_of_ble_eq_true rfl⟩ rfl (Nat.le_of_ble_eq_true rfl) ⟨by omega, by omega⟩ (eRo ?_)
  refine ev_iload dL_law_1299 rfl ?_
  refine ev_icmp_eq (tgt := 1306) dL_law_1301 (by decide) (fun _ => ?_) (fun q => absurd rfl q)
  refine ev_iload dL_law_1306 rfl ?_
  refine ev_if_ne (tgt := 1323) dL_law_1308 (by decide) (fun _ => ?_) (fun q => ?_)
  · refine ev_goto (tgt := 1744) dL_law_1323 (by decide) (eV.sub (lv' := lvL a b i) (lvL_in rfl rfl rfl rfl rfl) rfl ?_)
    exact K g' n1 _ _ hJ (by omega) (by omega)
  · have ej := nI_zero (by omega) q
    refine ev_aload_n dL_law_1311 rfl rfl ?_
    refine ev_iconst (v := nI 0) dL_law_1312 rfl ?_
    refine ev_laloadN dL_law_1313 hF (by omega) (by decide) ?_
    refine ev_iload dL_law_1314 rfl ?_
    refine ev_i2l dL_law_1316 rfl ?_
    refine ev_lcmp dL_law_1317 ?_
    refine ev_if_eq (tgt := 1323) dL_law_1318 (by decide) (fun _ => ?_) (fun q => absurd (by rw [hF0 ej]; exact lg_cmp_self _) q)
    refine ev_goto (tgt := 1744) dL_law_1323 (by decide) (eV.sub (lv' := lvL a b i) (lvL_in rfl rfl rfl rfl rfl) rfl ?_)
    exact K g' n1 _ _ hJ (by omega) (by omega)
set_option maxHeartbeats 1000000 in
theorem lc_bestName {mn : String} {tb : List ExceptionTableEntry} {a b L i n c0 s0 mc ms : Nat} {xs : Nat → Int32} {h : eH} {r : eRes} {J' : eH → Prop} (hL : L ≤ 2560) (hi : i + 5 ≤ L) (hmc : c0 + 1 ≤ mc ∧ s0 + 6 ≤ ms) (hs : eStep kL_bestName kX11_bestName [.ref b, .int (xs (i + 1)), .int (xs (i + 2)), .int (xs (i + 3)), .ref (b + 326)] [.ref (b + 317), .int (xs (i + 1)), .int (xs (i + 2)), .int (xs (i + 3))] b h n J') (K : ∀ (g : eH) (n' c' s' : Nat), J' g → c' ≤ c0 + 1 → s' ≤ s0 + 6 → eV (mLw mn tb a L xs) 1744 (lvL a b i) [] (g, n', c', s') r mc ms) : eV (mLw mn tb a L xs) 1326 (lvL a b i) [] (h, n, c0, s0) r mc ms := by
  obtain ⟨j, P1, nn, c1, s1, hj, hc1, hs1, hw, hrest⟩ := hs
  refine ev_aload_n dL_law_1326 rfl rfl ?_
  refine ev_aload_n dL_law_1327 rfl rfl ?_
  refine ev_iload dL_law_1328 rfl ?_
  refine ev_iconst (v := nI 1) dL_law_1330 rfl ?_
  refine ev_iaddN dL_law_1331 ?_
  refine ev_sldN dL_law_1332 rfl (by omega) (by omega) ?_
  refine ev_aload_n dL_law_1333 rfl rfl ?_
  refine ev_iload dL_law_1334 rfl ?_
  refine ev_iconst (v := nI 2) dL_law_1336 rfl ?_
  refine ev_iaddN dL_law_1337 ?_
  refine ev_sldN dL_law_1338 rfl (by omega) (by omega) ?_
  refine ev_aload_n dL_law_1339 rfl rfl ?_
  refine ev_iload dL_law_1340 rfl ?_
  refine ev_iconst (v := nI 3) dL_law_1342 rfl ?_
  refine ev_iaddN dL_law_1343 ?_
  refine ev_sldN dL_law_1344 rfl (by omega) (by omega) ?_
  refine ev_aload_n dL_law_1345 rfl rfl ?_
  refine ev_callSW (n1 := 0) dL_law_1346 hw lk_L_161 ⟨Nat.le_of_ble_eq_true rfl, Nat.le_of_ble_eq_true rfl⟩ rfl (Nat.le_of_ble_eq_true rfl) ⟨by omega, by omega⟩ (fun n1 g _ hg => ?_)
  obtain ⟨⟨z, hz⟩, v, P2, hm, hrest2⟩ := hrest g n1 hg
  refine ev_istore dL_law_1349 (Nat.le_of_ble_eq_true rfl) ?_
  refine ev_aload_n dL_law_1351 rfl rfl ?_
  refine ev_aload_n dL_law_1352 rfl rfl ?_
  refine ev_iload dL_law_1353 rfl ?_
  refine ev_iconst (v := nI 1) dL_law_1355 rfl ?_
  refine ev_iaddN dL_law_1356 ?_
  refine ev_sldN dL_law_1357 rfl (by omega) (by omega) ?_
  refine ev_aload_n dL_law_1358 rfl rfl ?_
  refine ev_iload dL_law_1359 rfl ?_
  refine ev_iconst (v := nI 2) dL_law_1361 rfl ?_
  refine ev_iaddN dL_law_1362 ?_
  refine ev_sldN dL_law_1363 rfl (by omega) (by omega) ?_
  refine ev_aload_n dL_law_1364 rfl rfl ?_
  refine ev_iload dL_law_1365 rfl ?_
  refine ev_iconst (v := nI 3) dL_law_1367 rfl ?_
  refine ev_iaddN dL_law_1368 ?_
  refine ev_sldN dL_law_1369 rfl (by omega) (by omega) ?_
  refine ev_callVi dL_law_1370 hm rfl lk_L_163 hz ⟨Nat.le_of_ble_eq_true rfl, Nat.le_of_ble_eq_true rfl⟩ rfl (Nat.le_of_ble_eq_true rfl) ⟨by omega, by omega⟩ (fun g' hg' => ?_)
  obtain ⟨⟨bc, l0, ap, gd, lo, lr, hB⟩, ⟨F, hF, hF0⟩, hJ⟩ := hrest2 g' hg'
  refine ev_istore dL_law_1373 (Nat.le_of_ble_eq_true rfl) ?_
  refine ev_aload_n dL_law_1375 rfl rfl ?_
  refine ev_callVi dL_law_1376 (c_X11_thrown hB) rfl lk_L_98 hB.ob ⟨Nat.le_of_ble_eq_true rfl, Nat.le_of_ble_eq_true rfl⟩ rfl (Nat.le_of_ble_eq_true rfl) ⟨by omega, by omega⟩ (eRo ?_)
  refine ev_iload dL_law_1379 rfl ?_
  refine ev_icmp_eq (tgt := 1386) dL_law_1381 (by decide) (fun _ => ?_) (fun q => absurd rfl q)
  refine ev_iload dL_law_1386 rfl ?_
  refine ev_if_ne (tgt := 1403) dL_law_1388 (by decide) (fun _ => ?_) (fun q => ?_)
  · refine ev_goto (tgt := 1744) dL_law_1403 (by decide) (eV.sub (lv' := lvL a b i) (lvL_in rfl rfl rfl rfl rfl) rfl ?_)
    exact K g' n1 _ _ hJ (by omega) (by omega)
  · have ej := nI_zero (by omega) q
    refine ev_aload_n dL_law_1391 rfl rfl ?_
    refine ev_iconst (v := nI 0) dL_law_1392 rfl ?_
    refine ev_laloadN dL_law_1393 hF (by omega) (by decide) ?_
    refine ev_iload dL_law_1394 rfl ?_
    refine ev_i2l dL_law_1396 rfl ?_
    refine ev_lcmp dL_law_1397 ?_
    refine ev_if_eq (tgt := 1403) dL_law_1398 (by decide) (fun _ => ?_) (fun q => absurd (by rw [hF0 ej]; exact lg_cmp_self _) q)
    refine ev_goto (tgt := 1744) dL_law_1403 (by decide) (eV.sub (lv' := lvL a b i) (lvL_in rfl rfl rfl rfl rfl) rfl ?_)
    exact K g' n1 _ _ hJ (by omega) (by omega)
set_option maxHeartbeats 1000000 in
theorem lc_bestGiver {mn : String} {tb : List ExceptionTableEntry} {a b L i n c0 s0 mc ms : Nat} {xs : Nat → Int32} {h : eH} {r : eRes} {J' : eH → Prop} (hL : L ≤ 2560) (hi : i + 5 ≤ L) (hmc : c0 + 1 ≤ mc ∧ s0 + 6 ≤ ms) (hs : eStep2 kX10_bestGiver kX11_bestGiver b h n J') (K : ∀ (g : eH) (n' c' s' : Nat), J' g → c' ≤ c0 + 1 → s' ≤ s0 + 6 → eV (mLw mn tb a L xs) 1744 (lvL a b i) [] (g, n', c', s') r mc ms) : eV (mLw mn tb a L xs) 1406 (lvL a b i) [] (h, n, c0, s0) r mc ms := by
  obtain ⟨⟨z0, hz0⟩, v, P1, hw, hrest⟩ := hs
  refine ev_aload_n dL_law_1406 rfl rfl ?_
  refine ev_callVi dL_law_1407 hw rfl lk_L_164 hz0 ⟨Nat.le_of_ble_eq_true rfl, Nat.le_of_ble_eq_true rfl⟩ rfl (Nat.le_of_ble_eq_true rfl) ⟨by omega, by omega⟩ (fun g hg => ?_)
  obtain ⟨⟨z1, hz1⟩, P2, hm, hrest2⟩ := hrest g hg
  refine ev_aload_n dL_law_1410 rfl rfl ?_
  refine ev_callVi dL_law_1411 hm rfl lk_L_167 hz1 ⟨Nat.le_of_ble_eq_true rfl, Nat.le_of_ble_eq_true rfl⟩ rfl (Nat.le_of_ble_eq_true rfl) ⟨by omega, by omega⟩ (fun g' hg' => ?_)
  refine ev_icmp_eq (tgt := 1744) dL_law_1414 (by decide) (fun _ => ?_) (fun q => absurd rfl q)
  exact K g' n _ _ (hrest2 g' hg') (by omega) (by omega)
set_option maxHeartbeats 1000000 in
theorem lc_mixed {mn : String} {tb : List ExceptionTableEntry} {a b L i n c0 s0 mc ms : Nat} {xs : Nat → Int32} {h : eH} {r : eRes} {J' : eH → Prop} (hL : L ≤ 2560) (hi : i + 5 ≤ L) (hmc : c0 + 1 ≤ mc ∧ s0 + 6 ≤ ms) (hs : eStep2 kX10_mixed kX11_mixed b h n J') (K : ∀ (g : eH) (n' c' s' : Nat), J' g → c' ≤ c0 + 1 → s' ≤ s0 + 6 → eV (mLw mn tb a L xs) 1744 (lvL a b i) [] (g, n', c', s') r mc ms) : eV (mLw mn tb a L xs) 1419 (lvL a b i) [] (h, n, c0, s0) r mc ms := by
  obtain ⟨⟨z0, hz0⟩, v, P1, hw, hrest⟩ := hs
  refine ev_aload_n dL_law_1419 rfl rfl ?_
  refine ev_callVi dL_law_1420 hw rfl lk_L_168 hz0 ⟨Nat.le_of_ble_eq_true rfl, Nat.le_of_ble_eq_true rfl⟩ rfl (Nat.le_of_ble_eq_true rfl) ⟨by omega, by omega⟩ (fun g hg => ?_)
  obtain ⟨⟨z1, hz1⟩, P2, hm, hrest2⟩ := hrest g hg
  refine ev_aload_n dL_law_1423 rfl rfl ?_
  refine ev_callVi dL_law_1424 hm rfl lk_L_171 hz1 ⟨Nat.le_of_ble_eq_true rfl, Nat.le_of_ble_eq_true rfl⟩ rfl (Nat.le_of_ble_eq_true rfl) ⟨by omega, by omega⟩ (fun g' hg' => ?_)
  refine ev_icmp_eq (tgt := 1744) dL_law_1427 (by decide) (fun _ => ?_) (fun q => absurd rfl q)
  exact K g' n _ _ (hrest2 g' hg') (by omega) (by omega)
set_option maxHeartbeats 1000000 in
theorem lc_runScript {mn : String} {tb : List ExceptionTableEntry} {a b L i n c0 s0 mc ms : Nat} {xs : Nat → Int32} {h : eH} {r : eRes} {J' : eH → Prop} (hL : L ≤ 2560) (hi : i + 5 ≤ L) (hmc : c0 + 1 ≤ mc ∧ s0 + 6 ≤ ms) (hs : eStep kL_runScript kX11_runScript [.ref b, .int (xs (i + 1)), .long ((((xs (i + 2)).toInt64 <<< ((nI 32).toInt64 &&& 63)) ||| ((xs (i + 3)).toInt64 &&& 4294967295))), .ref (b + 326)] [.ref (b + 317), .int (xs (i + 1)), .long ((((xs (i + 2)).toInt64 <<< ((nI 32).toInt64 &&& 63)) ||| ((xs (i + 3)).toInt64 &&& 4294967295)))] b h n J') (K : ∀ (g : eH) (n' c' s' : Nat), J' g → c' ≤ c0 + 1 → s' ≤ s0 + 6 → eV (mLw mn tb a L xs) 1744 (lvL a b i) [] (g, n', c', s') r mc ms) : eV (mLw mn tb a L xs) 1432 (lvL a b i) [] (h, n, c0, s0) r mc ms := by
  obtain ⟨j, P1, nn, c1, s1, hj, hc1, hs1, hw, hrest⟩ := hs
  refine ev_aload_n dL_law_1432 rfl rfl ?_
  refine ev_aload_n dL_law_1433 rfl rfl ?_
  refine ev_iload dL_law_1434 rfl ?_
  refine ev_iconst (v := nI 1) dL_law_1436 rfl ?_
  refine ev_iaddN dL_law_1437 ?_
  refine ev_sldN dL_law_1438 rfl (by omega) (by omega) ?_
  refine ev_aload_n dL_law_1439 rfl rfl ?_
  refine ev_iload dL_law_1440 rfl ?_
  refine ev_iconst (v := nI 2) dL_law_1442 rfl ?_
  refine ev_iaddN dL_law_1443 ?_
  refine ev_sldN dL_law_1444 rfl (by omega) (by omega) ?_
  refine ev_i2l dL_law_1445 rfl ?_
  refine ev_bipush (v := nI 32) dL_law_1446 (by decide) ?_
  refine ev_lshl dL_law_1448 rfl ?_
  refine ev_aload_n dL_law_1449 rfl rfl ?_
  refine ev_iload dL_law_1450 rfl ?_
  refine ev_iconst (v := nI 3) dL_law_1452 rfl ?_
  refine ev_iaddN dL_law_1453 ?_
  refine ev_sldN dL_law_1454 rfl (by omega) (by omega) ?_
  refine ev_i2l dL_law_1455 rfl ?_
  refine ev_ldc2 dL_law_1456 wq_L_172 ?_
  refine ev_land dL_law_1459 ?_
  refine ev_lor dL_law_1460 ?_
  refine ev_aload_n dL_law_1461 rfl rfl ?_
  refine ev_callSW (n1 := 0) dL_law_1462 hw lk_L_174 ⟨Nat.le_of_ble_eq_true rfl, Nat.le_of_ble_eq_true rfl⟩ rfl (Nat.le_of_ble_eq_true rfl) ⟨by omega, by omega⟩ (fun n1 g _ hg => ?_)
  obtain ⟨⟨z, hz⟩, v, P2, hm, hrest2⟩ := hrest g n1 hg
  refine ev_istore dL_law_1465 (Nat.le_of_ble_eq_true rfl) ?_
  refine ev_aload_n dL_law_1467 rfl rfl ?_
  refine ev_aload_n dL_law_1468 rfl rfl ?_
  refine ev_iload dL_law_1469 rfl ?_
  refine ev_iconst (v := nI 1) dL_law_1471 rfl ?_
  refine ev_iaddN dL_law_1472 ?_
  refine ev_sldN dL_law_1473 rfl (by omega) (by omega) ?_
  refine ev_aload_n dL_law_1474 rfl rfl ?_
  refine ev_iload dL_law_1475 rfl ?_
  refine ev_iconst (v := nI 2) dL_law_1477 rfl ?_
  refine ev_iaddN dL_law_1478 ?_
  refine ev_sldN dL_law_1479 rfl (by omega) (by omega) ?_
  refine ev_i2l dL_law_1480 rfl ?_
  refine ev_bipush (v := nI 32) dL_law_1481 (by decide) ?_
  refine ev_lshl dL_law_1483 rfl ?_
  refine ev_aload_n dL_law_1484 rfl rfl ?_
  refine ev_iload dL_law_1485 rfl ?_
  refine ev_iconst (v := nI 3) dL_law_1487 rfl ?_
  refine ev_iaddN dL_law_1488 ?_
  refine ev_sldN dL_law_1489 rfl (by omega) (by omega) ?_
  refine ev_i2l dL_law_1490 rfl ?_
  refine ev_ldc2 dL_law_1491 wq_L_172 ?_
  refine ev_land dL_law_1494 ?_
  refine ev_lor dL_law_1495 ?_
  refine ev_callVi dL_law_1496 hm rfl lk_L_177 hz ⟨Nat.le_of_ble_eq_true rfl, Nat.le_of_ble_eq_true rfl⟩ rfl (Nat.le_of_ble_eq_true rfl) ⟨by omega, by omega⟩ (fun g' hg' => ?_)
  obtain ⟨⟨bc, l0, ap, gd, lo, lr, hB⟩, ⟨F, hF, hF0⟩, hJ⟩ := hrest2 g' hg'
  refine ev_istore dL_law_1499 (Nat.le_of_ble_eq_true rfl) ?_
  refine ev_aload_n dL_law_1501 rfl rfl ?_
  refine ev_callVi dL_law_1502 (c_X11_thrown hB) rfl lk_L_98 hB.ob ⟨Nat.le_of_ble_eq_true rfl, Nat.le_of_ble_eq_true rfl⟩ rfl (Nat.le_of_ble_eq_true rfl) ⟨by omega, by omega⟩ (eRo ?_)
  refine ev_iload dL_law_1505 rfl ?_
  refine ev_icmp_eq (tgt := 1512) dL_law_1507 (by decide) (fun _ => ?_) (fun q => absurd rfl q)
  refine ev_iload dL_law_1512 rfl ?_
  refine ev_if_ne (tgt := 1529) dL_law_1514 (by decide) (fun _ => ?_) (fun q => ?_)
  · refine ev_goto (tgt := 1744) dL_law_1529 (by decide) (eV.sub (lv' := lvL a b i) (lvL_in rfl rfl rfl rfl rfl) rfl ?_)
    exact K g' n1 _ _ hJ (by omega) (by omega)
  · have ej := nI_zero (by omega) q
    refine ev_aload_n dL_law_1517 rfl rfl ?_
    refine ev_iconst (v := nI 0) dL_law_1518 rfl ?_
    refine ev_laloadN dL_law_1519 hF (by omega) (by decide) ?_
    refine ev_iload dL_law_1520 rfl ?_
    refine ev_i2l dL_law_1522 rfl ?_
    refine ev_lcmp dL_law_1523 ?_
    refine ev_if_eq (tgt := 1529) dL_law_1524 (by decide) (fun _ => ?_) (fun q => absurd (by rw [hF0 ej]; exact lg_cmp_self _) q)
    refine ev_goto (tgt := 1744) dL_law_1529 (by decide) (eV.sub (lv' := lvL a b i) (lvL_in rfl rfl rfl rfl rfl) rfl ?_)
    exact K g' n1 _ _ hJ (by omega) (by omega)
set_option maxHeartbeats 1000000 in
theorem lc_simulate {mn : String} {tb : List ExceptionTableEntry} {a b L i n c0 s0 mc ms : Nat} {xs : Nat → Int32} {h : eH} {r : eRes} {J' : eH → Prop} (hL : L ≤ 2560) (hi : i + 5 ≤ L) (hmc : c0 + 1 ≤ mc ∧ s0 + 6 ≤ ms) (hs : eStep kL_simulate kX11_simulate [.ref b, .long ((((xs (i + 1)).toInt64 <<< ((nI 32).toInt64 &&& 63)) ||| ((xs (i + 2)).toInt64 &&& 4294967295))), .int (xs (i + 3)), .ref (b + 326)] [.ref (b + 317), .long ((((xs (i + 1)).toInt64 <<< ((nI 32).toInt64 &&& 63)) ||| ((xs (i + 2)).toInt64 &&& 4294967295))), .int (xs (i + 3))] b h n J') (K : ∀ (g : eH) (n' c' s' : Nat), J' g → c' ≤ c0 + 1 → s' ≤ s0 + 6 → eV (mLw mn tb a L xs) 1744 (lvL a b i) [] (g, n', c', s') r mc ms) : eV (mLw mn tb a L xs) 1532 (lvL a b i) [] (h, n, c0, s0) r mc ms := by
  obtain ⟨j, P1, nn, c1, s1, hj, hc1, hs1, hw, hrest⟩ := hs
  refine ev_aload_n dL_law_1532 rfl rfl ?_
  refine ev_aload_n dL_law_1533 rfl rfl ?_
  refine ev_iload dL_law_1534 rfl ?_
  refine ev_iconst (v := nI 1) dL_law_1536 rfl ?_
  refine ev_iaddN dL_law_1537 ?_
  refine ev_sldN dL_law_1538 rfl (by omega) (by omega) ?_
  refine ev_i2l dL_law_1539 rfl ?_
  refine ev_bipush (v := nI 32) dL_law_1540 (by decide) ?_
  refine ev_lshl dL_law_1542 rfl ?_
  refine ev_aload_n dL_law_1543 rfl rfl ?_
  refine ev_iload dL_law_1544 rfl ?_
  refine ev_iconst (v := nI 2) dL_law_1546 rfl ?_
  refine ev_iaddN dL_law_1547 ?_
  refine ev_sldN dL_law_1548 rfl (by omega) (by omega) ?_
  refine ev_i2l dL_law_1549 rfl ?_
  refine ev_ldc2 dL_law_1550 wq_L_172 ?_
  refine ev_land dL_law_1553 ?_
  refine ev_lor dL_law_1554 ?_
  refine ev_aload_n dL_law_1555 rfl rfl ?_
  refine ev_iload dL_law_1556 rfl ?_
  refine ev_iconst (v := nI 3) dL_law_1558 rfl ?_
  refine ev_iaddN dL_law_1559 ?_
  refine ev_sldN dL_law_1560 rfl (by omega) (by omega) ?_
  refine ev_aload_n dL_law_1561 rfl rfl ?_
  refine ev_callSW (n1 := 0) dL_law_1562 hw lk_L_178 ⟨Nat.le_of_ble_eq_true rfl, Nat.le_of_ble_eq_true rfl⟩ rfl (Nat.le_of_ble_eq_true rfl) ⟨by omega, by omega⟩ (fun n1 g _ hg => ?_)
  obtain ⟨⟨z, hz⟩, v, P2, hm, hrest2⟩ := hrest g n1 hg
  refine ev_istore dL_law_1565 (Nat.le_of_ble_eq_true rfl) ?_
  refine ev_aload_n dL_law_1567 rfl rfl ?_
  refine ev_aload_n dL_law_1568 rfl rfl ?_
  refine ev_iload dL_law_1569 rfl ?_
  refine ev_iconst (v := nI 1) dL_law_1571 rfl ?_
  refine ev_iaddN dL_law_1572 ?_
  refine ev_sldN dL_law_1573 rfl (by omega) (by omega) ?_
  refine ev_i2l dL_law_1574 rfl ?_
  refine ev_bipush (v := nI 32) dL_law_1575 (by decide) ?_
  refine ev_lshl dL_law_1577 rfl ?_
  refine ev_aload_n dL_law_1578 rfl rfl ?_
  refine ev_iload dL_law_1579 rfl ?_
  refine ev_iconst (v := nI 2) dL_law_1581 rfl ?_
  refine ev_iaddN dL_law_1582 ?_
  refine ev_sldN dL_law_1583 rfl (by omega) (by omega) ?_
  refine ev_i2l dL_law_1584 rfl ?_
  refine ev_ldc2 dL_law_1585 wq_L_172 ?_
  refine ev_land dL_law_1588 ?_
  refine ev_lor dL_law_1589 ?_
  refine ev_aload_n dL_law_1590 rfl rfl ?_
  refine ev_iload dL_law_1591 rfl ?_
  refine ev_iconst (v := nI 3) dL_law_1593 rfl ?_
  refine ev_iaddN dL_law_1594 ?_
  refine ev_sldN dL_law_1595 rfl (by omega) (by omega) ?_
  refine ev_callVi dL_law_1596 hm rfl lk_L_181 hz ⟨Nat.le_of_ble_eq_true rfl, Nat.le_of_ble_eq_true rfl⟩ rfl (Nat.le_of_ble_eq_true rfl) ⟨by omega, by omega⟩ (fun g' hg' => ?_)
  obtain ⟨⟨bc, l0, ap, gd, lo, lr, hB⟩, ⟨F, hF, hF0⟩, hJ⟩ := hrest2 g' hg'
  refine ev_istore dL_law_1599 (Nat.le_of_ble_eq_true rfl) ?_
  refine ev_aload_n dL_law_1601 rfl rfl ?_
  refine ev_callVi dL_law_1602 (c_X11_thrown hB) rfl lk_L_98 hB.ob ⟨Nat.le_of_ble_eq_true rfl, Nat.le_of_ble_eq_true rfl⟩ rfl (Nat.le_of_ble_eq_true rfl) ⟨by omega, by omega⟩ (eRo ?_)
  refine ev_iload dL_law_1605 rfl ?_
  refine ev_icmp_eq (tgt := 1612) dL_law_1607 (by decide) (fun _ => ?_) (fun q => absurd rfl q)
  refine ev_iload dL_law_1612 rfl ?_
  refine ev_if_ne (tgt := 1629) dL_law_1614 (by decide) (fun _ => ?_) (fun q => ?_)
  · refine ev_goto (tgt := 1744) dL_law_1629 (by decide) (eV.sub (lv' := lvL a b i) (lvL_in rfl rfl rfl rfl rfl) rfl ?_)
    exact K g' n1 _ _ hJ (by omega) (by omega)
  · have ej := nI_zero (by omega) q
    refine ev_aload_n dL_law_1617 rfl rfl ?_
    refine ev_iconst (v := nI 0) dL_law_1618 rfl ?_
    refine ev_laloadN dL_law_1619 hF (by omega) (by decide) ?_
    refine ev_iload dL_law_1620 rfl ?_
    refine ev_i2l dL_law_1622 rfl ?_
    refine ev_lcmp dL_law_1623 ?_
    refine ev_if_eq (tgt := 1629) dL_law_1624 (by decide) (fun _ => ?_) (fun q => absurd (by rw [hF0 ej]; exact lg_cmp_self _) q)
    refine ev_goto (tgt := 1744) dL_law_1629 (by decide) (eV.sub (lv' := lvL a b i) (lvL_in rfl rfl rfl rfl rfl) rfl ?_)
    exact K g' n1 _ _ hJ (by omega) (by omega)
set_option maxHeartbeats 1000000 in
theorem lc_save {mn : String} {tb : List ExceptionTableEntry} {a b L i n c0 s0 mc ms : Nat} {xs : Nat → Int32} {h : eH} {r : eRes} {J' : eH → Prop} (hL : L ≤ 2560) (hi : i + 5 ≤ L) (hmc : c0 + 1 ≤ mc ∧ s0 + 6 ≤ ms) (hs : eStep kL_save kX11_save [.ref b, .int (xs (i + 1)), .ref (b + 326)] [.ref (b + 317), .int (xs (i + 1))] b h n J') (K : ∀ (g : eH) (n' c' s' : Nat), J' g → c' ≤ c0 + 1 → s' ≤ s0 + 6 → eV (mLw mn tb a L xs) 1744 (lvL a b i) [] (g, n', c', s') r mc ms) : eV (mLw mn tb a L xs) 1632 (lvL a b i) [] (h, n, c0, s0) r mc ms := by
  obtain ⟨j, P1, nn, c1, s1, hj, hc1, hs1, hw, hrest⟩ := hs
  refine ev_aload_n dL_law_1632 rfl rfl ?_
  refine ev_aload_n dL_law_1633 rfl rfl ?_
  refine ev_iload dL_law_1634 rfl ?_
  refine ev_iconst (v := nI 1) dL_law_1636 rfl ?_
  refine ev_iaddN dL_law_1637 ?_
  refine ev_sldN dL_law_1638 rfl (by omega) (by omega) ?_
  refine ev_aload_n dL_law_1639 rfl rfl ?_
  refine ev_callSW (n1 := 0) dL_law_1640 hw lk_L_182 ⟨Nat.le_of_ble_eq_true rfl, Nat.le_of_ble_eq_true rfl⟩ rfl (Nat.le_of_ble_eq_true rfl) ⟨by omega, by omega⟩ (fun n1 g _ hg => ?_)
  obtain ⟨⟨z, hz⟩, v, P2, hm, hrest2⟩ := hrest g n1 hg
  refine ev_istore dL_law_1643 (Nat.le_of_ble_eq_true rfl) ?_
  refine ev_aload_n dL_law_1645 rfl rfl ?_
  refine ev_aload_n dL_law_1646 rfl rfl ?_
  refine ev_iload dL_law_1647 rfl ?_
  refine ev_iconst (v := nI 1) dL_law_1649 rfl ?_
  refine ev_iaddN dL_law_1650 ?_
  refine ev_sldN dL_law_1651 rfl (by omega) (by omega) ?_
  refine ev_callVi dL_law_1652 hm rfl lk_L_184 hz ⟨Nat.le_of_ble_eq_true rfl, Nat.le_of_ble_eq_true rfl⟩ rfl (Nat.le_of_ble_eq_true rfl) ⟨by omega, by omega⟩ (fun g' hg' => ?_)
  obtain ⟨⟨bc, l0, ap, gd, lo, lr, hB⟩, ⟨F, hF, hF0⟩, hJ⟩ := hrest2 g' hg'
  refine ev_istore dL_law_1655 (Nat.le_of_ble_eq_true rfl) ?_
  refine ev_aload_n dL_law_1657 rfl rfl ?_
  refine ev_callVi dL_law_1658 (c_X11_thrown hB) rfl lk_L_98 hB.ob ⟨Nat.le_of_ble_eq_true rfl, Nat.le_of_ble_eq_true rfl⟩ rfl (Nat.le_of_ble_eq_true rfl) ⟨by omega, by omega⟩ (eRo ?_)
  refine ev_iload dL_law_1661 rfl ?_
  refine ev_icmp_eq (tgt := 1668) dL_law_1663 (by decide) (fun _ => ?_) (fun q => absurd rfl q)
  refine ev_iload dL_law_1668 rfl ?_
  refine ev_if_ne (tgt := 1685) dL_law_1670 (by decide) (fun _ => ?_) (fun q => ?_)
  · refine ev_goto (tgt := 1744) dL_law_1685 (by decide) (eV.sub (lv' := lvL a b i) (lvL_in rfl rfl rfl rfl rfl) rfl ?_)
    exact K g' n1 _ _ hJ (by omega) (by omega)
  · have ej := nI_zero (by omega) q
    refine ev_aload_n dL_law_1673 rfl rfl ?_
    refine ev_iconst (v := nI 0) dL_law_1674 rfl ?_
    refine ev_laloadN dL_law_1675 hF (by omega) (by decide) ?_
    refine ev_iload dL_law_1676 rfl ?_
    refine ev_i2l dL_law_1678 rfl ?_
    refine ev_lcmp dL_law_1679 ?_
    refine ev_if_eq (tgt := 1685) dL_law_1680 (by decide) (fun _ => ?_) (fun q => absurd (by rw [hF0 ej]; exact lg_cmp_self _) q)
    refine ev_goto (tgt := 1744) dL_law_1685 (by decide) (eV.sub (lv' := lvL a b i) (lvL_in rfl rfl rfl rfl rfl) rfl ?_)
    exact K g' n1 _ _ hJ (by omega) (by omega)
set_option maxHeartbeats 1000000 in
theorem lc_restore {mn : String} {tb : List ExceptionTableEntry} {a b L i n c0 s0 mc ms : Nat} {xs : Nat → Int32} {h : eH} {r : eRes} {J' : eH → Prop} (hL : L ≤ 2560) (hi : i + 5 ≤ L) (hmc : c0 + 1 ≤ mc ∧ s0 + 6 ≤ ms) (hs : eStep kL_restore kX11_restore [.ref b, .int (xs (i + 1)), .ref (b + 326)] [.ref (b + 317), .int (xs (i + 1))] b h n J') (K : ∀ (g : eH) (n' c' s' : Nat), J' g → c' ≤ c0 + 1 → s' ≤ s0 + 6 → eV (mLw mn tb a L xs) 1744 (lvL a b i) [] (g, n', c', s') r mc ms) : eV (mLw mn tb a L xs) 1688 (lvL a b i) [] (h, n, c0, s0) r mc ms := by
  obtain ⟨j, P1, nn, c1, s1, hj, hc1, hs1, hw, hrest⟩ := hs
  refine ev_aload_n dL_law_1688 rfl rfl ?_
  refine ev_aload_n dL_law_1689 rfl rfl ?_
  refine ev_iload dL_law_1690 rfl ?_
  refine ev_iconst (v := nI 1) dL_law_1692 rfl ?_
  refine ev_iaddN dL_law_1693 ?_
  refine ev_sldN dL_law_1694 rfl (by omega) (by omega) ?_
  refine ev_aload_n dL_law_1695 rfl rfl ?_
  refine ev_callSW (n1 := 0) dL_law_1696 hw lk_L_185 ⟨Nat.le_of_ble_eq_true rfl, Nat.le_of_ble_eq_true rfl⟩ rfl (Nat.le_of_ble_eq_true rfl) ⟨by omega, by omega⟩ (fun n1 g _ hg => ?_)
  obtain ⟨⟨z, hz⟩, v, P2, hm, hrest2⟩ := hrest g n1 hg
  refine ev_istore dL_law_1699 (Nat.le_of_ble_eq_true rfl) ?_
  refine ev_aload_n dL_law_1701 rfl rfl ?_
  refine ev_aload_n dL_law_1702 rfl rfl ?_
  refine ev_iload dL_law_1703 rfl ?_
  refine ev_iconst (v := nI 1) dL_law_1705 rfl ?_
  refine ev_iaddN dL_law_1706 ?_
  refine ev_sldN dL_law_1707 rfl (by omega) (by omega) ?_
  refine ev_callVi dL_law_1708 hm rfl lk_L_187 hz ⟨Nat.le_of_ble_eq_true rfl, Nat.le_of_ble_eq_true rfl⟩ rfl (Nat.le_of_ble_eq_true rfl) ⟨by omega, by omega⟩ (fun g' hg' => ?_)
  obtain ⟨⟨bc, l0, ap, gd, lo, lr, hB⟩, ⟨F, hF, hF0⟩, hJ⟩ := hrest2 g' hg'
  refine ev_istore dL_law_1711 (Nat.le_of_ble_eq_true rfl) ?_
  refine ev_aload_n dL_law_1713 rfl rfl ?_
  refine ev_callVi dL_law_1714 (c_X11_thrown hB) rfl lk_L_98 hB.ob ⟨Nat.le_of_ble_eq_true rfl, Nat.le_of_ble_eq_true rfl⟩ rfl (Nat.le_of_ble_eq_true rfl) ⟨by omega, by omega⟩ (eRo ?_)
  refine ev_iload dL_law_1717 rfl ?_
  refine ev_icmp_eq (tgt := 1724) dL_law_1719 (by decide) (fun _ => ?_) (fun q => absurd rfl q)
  refine ev_iload dL_law_1724 rfl ?_
  refine ev_if_ne (tgt := 1741) dL_law_1726 (by decide) (fun _ => ?_) (fun q => ?_)
  · refine ev_goto (tgt := 1744) dL_law_1741 (by decide) (eV.sub (lv' := lvL a b i) (lvL_in rfl rfl rfl rfl rfl) rfl ?_)
    exact K g' n1 _ _ hJ (by omega) (by omega)
  · have ej := nI_zero (by omega) q
    refine ev_aload_n dL_law_1729 rfl rfl ?_
    refine ev_iconst (v := nI 0) dL_law_1730 rfl ?_
    refine ev_laloadN dL_law_1731 hF (by omega) (by decide) ?_
    refine ev_iload dL_law_1732 rfl ?_
    refine ev_i2l dL_law_1734 rfl ?_
    refine ev_lcmp dL_law_1735 ?_
    refine ev_if_eq (tgt := 1741) dL_law_1736 (by decide) (fun _ => ?_) (fun q => absurd (by rw [hF0 ej]; exact lg_cmp_self _) q)
    refine ev_goto (tgt := 1744) dL_law_1741 (by decide) (eV.sub (lv' := lvL a b i) (lvL_in rfl rfl rfl rfl rfl) rfl ?_)
    exact K g' n1 _ _ hJ (by omega) (by omega)
