/-! THE LAW -/
abbrev mLw (mn : String) (tb : List ExceptionTableEntry) (a L : Nat) (xs : Nat → Int32) : eMI := (cL_law, 7, ret, RL, mn, 13, 502, tb, some (a, L, xs))
abbrev lvK (a b k : Nat) : List (Nat × Value) := [(0, .ref a), (1, .ref b), (2, .ref (b + 317)), (3, .int (nI 1)), (4, .int (nI k))]
section RC
variable {M : eMI} {pc : Nat} {lv : List (Nat × Value)} {st : List Value} {r : eRes} {mc ms : Nat} {h : eH} {n c0 s0 idx : Nat} {y : MethodName} {bytes : ByteArray} {maxL fr1 lo1 : Nat} {ret : Option FieldType} {As rest : List Value} {v : Value} {nn : Option Nat}
theorem ev_rcN {mc1 ms1 : Nat} (d : decode M.1 pc = .ok (.invokestatic idx, 3)) (hm : eM y (.code y bytes maxL ret) fr1 lo1 As h n (.inl (some v), (· = h), nn) mc1 ms1) (hk : eLS M.own idx y (.code y bytes maxL ret) As.length) (hroom : fr1 + 1 ≤ M.fr ∧ 8 + (maxL + 11) + lo1 ≤ M.lo) (hst : st = As.reverse ++ rest) (hw : (rest.map fun v => v.category).sum ≤ 8) (hb : c0 + mc1 ≤ mc ∧ s0 + ms1 ≤ ms) (k : ∀ n1 : Nat, eV M (pc + 3) lv (v :: rest) (h, n1, c0 + mc1, s0 + ms1) r mc ms) : eV M pc lv st (h, n, c0, s0) r mc ms := ev_callSN d hm hk hroom hst hw hb (eRn k)
end RC
theorem eNB.c0 {h : eH} {b ℓ : Nat} {σ : St} {x : Nat → Nat} {τ τs : Nat → St} {us : Nat → Nat} (τ2 : Nat → St) (hO : eNB h b σ x ℓ 0 τ us τs) : eNB h b σ x ℓ 0 τ2 us τs := by
  obtain ⟨h0, hT, hR, hR2, ⟨f, p1, p2, p3, p4, p5⟩, hS, hW⟩ := hO
  exact ⟨h0, hT, hR, hR2, ⟨f, p1, p2, p3, p4, fun j hj => absurd hj (Nat.not_lt_zero j)⟩, hS, hW⟩
theorem a_restoreS {h : eH} {n b ℓ c : Nat} {σ σ' : St} {x : Nat → Nat} {τ τs : Nat → St} {us : Nat → Nat} (hO : eNB h b σ x ℓ c τ us τs) (hs : τs 1 = σ') (hu : us 1 ≠ 0) (h1 : σ' 0 1 ≤ 40) : kL_restore [.ref b, .int (nI 1)] h n (.inl (some (.long (lN (σ' 0 1)))), (fun g => eNB g b σ' x ℓ 0 τ us τs ∧ eFr h g b (b + 317)), some n) 0 0 := by
  subst hs
  exact a_restore hO (by decide) hu h1
def lJ (b k : Nat) (g : eH) : Prop := ∃ (σ : St) (x : Nat → Nat) (ℓ c : Nat) (τ : Nat → St) (us : Nat → Nat) (τs : Nat → St), eNB g b σ x ℓ c τ us τs ∧ eNB g (b + 317) σ x ℓ c τ us τs ∧ gU σ c τ us τs (200 * (k + 1))
set_option maxHeartbeats 4000000 in
set_option maxRecDepth 20000 in
theorem law_237 {mn : String} {tb : List ExceptionTableEntry} {a b L : Nat} {xs : Nat → Int32} {r : eRes} {k Y : Nat} (hk : k < 40) (hY : Y < 2 ^ 31) {h : eH} {n c0 s0 ℓ c : Nat} {σ : St} {x : Nat → Nat} {τ τs : Nat → St} {us : Nat → Nat} (hO1 : eNB h b σ x ℓ c τ us τs) (hO2 : eNB h (b + 317) σ x ℓ c τ us τs) (hV : gU σ c τ us τs (200 * (k + 1) + 150)) (hc : c0 ≤ 1000 + 100 * k + 90) (hs : s0 ≤ 16000 + 500 * k + 400) (K : ∀ (g : eH) (n1 c1 s1 : Nat), lJ b (k + 1) g → c1 ≤ 1000 + 100 * (k + 1) → s1 ≤ 16000 + 500 * (k + 1) → eV (mLw mn tb a L xs) 52 (lvK a b (k + 1)) [] (g, n1, c1, s1) r 600104 7301314) : eV (mLw mn tb a L xs) 237 [(0, .ref a), (1, .ref b), (2, .ref (b + 317)), (3, .int (nI 1)), (4, .int (nI k)), (6, .int (nI Y))] [] (h, n, c0, s0) r 600104 7301314 := by
  have hT2 : 200 * (k + 1) + 150 + 2 < 2 ^ 20 := by omega
  have hT : 200 * (k + 1) + 150 < 2 ^ 20 := by omega
  refine ev_iload_n (i := 3) dL_law_237 rfl (by repeat (first | with_reducible exact lk_h | ((with_reducible refine lk_e ?_); rfl) | refine lk_m ?_ rfl)) ?_
  refine ev_if_eqN (tgt := 263) dL_law_238 (by decide) (by decide) (fun c => absurd c (by decide)) (fun _ => ?_)
  refine ev_iload (i := 4) dL_law_241 (by repeat (first | with_reducible exact lk_h | ((with_reducible refine lk_e ?_); rfl) | refine lk_m ?_ rfl)) ?_
  refine ev_bipush (v := nI 10) dL_law_243 rfl ?_
  refine ev_iremN dL_law_245 (by omega) (by first | assumption | omega) (by omega) ?_
  refine ev_if_gtZ (tgt := 259) dL_law_246 (by decide) (fun c_246 => ?_) (fun c_246 => ?_)
  · refine ev_iconst (v := nI 1) dL_law_259 rfl ?_
    refine ev_goto (tgt := 264) dL_law_260 (by decide) ?_
    refine ev_istore_n (i := 3) dL_law_264 rfl (Nat.le_of_ble_eq_true rfl) ?_
    refine ev_iincN dL_law_265 (by repeat (first | with_reducible exact lk_h | ((with_reducible refine lk_e ?_); rfl) | refine lk_m ?_ rfl)) (Nat.le_of_ble_eq_true rfl) ?_
    refine ev_goto (tgt := 52) dL_law_268 (by decide) ?_
    exact (K _ _ _ _ ⟨_, _, _, _, _, _, _, hO1, hO2, hV.mono (by omega)⟩ (by omega) (by omega)).sub1 ⟨(by repeat (first | with_reducible exact lk_h | ((with_reducible refine lk_e ?_); rfl) | refine lk_m ?_ rfl)), (by repeat (first | with_reducible exact lk_h | ((with_reducible refine lk_e ?_); rfl) | refine lk_m ?_ rfl)), (by repeat (first | with_reducible exact lk_h | ((with_reducible refine lk_e ?_); rfl) | refine lk_m ?_ rfl)), (by repeat (first | with_reducible exact lk_h | ((with_reducible refine lk_e ?_); rfl) | refine lk_m ?_ rfl)), (by repeat (first | with_reducible exact lk_h | ((with_reducible refine lk_e ?_); rfl) | refine lk_m ?_ rfl)), trivial⟩ (eff_id rfl)
  · refine ev_aload_n (i := 1) dL_law_249 rfl (by repeat (first | with_reducible exact lk_h | ((with_reducible refine lk_e ?_); rfl) | refine lk_m ?_ rfl)) ?_
    refine ev_aload_n (i := 2) dL_law_250 rfl (by repeat (first | with_reducible exact lk_h | ((with_reducible refine lk_e ?_); rfl) | refine lk_m ?_ rfl)) ?_
    refine ev_iload (i := 6) dL_law_251 (by repeat (first | with_reducible exact lk_h | ((with_reducible refine lk_e ?_); rfl) | refine lk_m ?_ rfl)) ?_
    refine ev_sxN dL_law_253 (c_L_alike hO1 hO2 hV.1 hT hY) lk_L_198 ⟨Nat.le_of_ble_eq_true rfl, Nat.le_of_ble_eq_true rfl⟩ rfl (Nat.le_of_ble_eq_true rfl) ⟨by omega, by omega⟩ (fun n_253 g_253 hg_253 => ?_)
    obtain ⟨hO1, hO2⟩ := hg_253
    refine ev_if_eqN (tgt := 263) dL_law_256 (by decide) (by decide) (fun c => absurd c (by decide)) (fun _ => ?_)
    refine ev_iconst (v := nI 1) dL_law_259 rfl ?_
    refine ev_goto (tgt := 264) dL_law_260 (by decide) ?_
    refine ev_istore_n (i := 3) dL_law_264 rfl (Nat.le_of_ble_eq_true rfl) ?_
    refine ev_iincN dL_law_265 (by repeat (first | with_reducible exact lk_h | ((with_reducible refine lk_e ?_); rfl) | refine lk_m ?_ rfl)) (Nat.le_of_ble_eq_true rfl) ?_
    refine ev_goto (tgt := 52) dL_law_268 (by decide) ?_
    exact (K _ _ _ _ ⟨_, _, _, _, _, _, _, hO1, hO2, hV.mono (by omega)⟩ (by omega) (by omega)).sub1 ⟨(by repeat (first | with_reducible exact lk_h | ((with_reducible refine lk_e ?_); rfl) | refine lk_m ?_ rfl)), (by repeat (first | with_reducible exact lk_h | ((with_reducible refine lk_e ?_); rfl) | refine lk_m ?_ rfl)), (by repeat (first | with_reducible exact lk_h | ((with_reducible refine lk_e ?_); rfl) | refine lk_m ?_ rfl)), (by repeat (first | with_reducible exact lk_h | ((with_reducible refine lk_e ?_); rfl) | refine lk_m ?_ rfl)), (by repeat (first | with_reducible exact lk_h | ((with_reducible refine lk_e ?_); rfl) | refine lk_m ?_ rfl)), trivial⟩ (eff_id rfl)
set_option maxHeartbeats 4000000 in
set_option maxRecDepth 20000 in
theorem law_188 {mn : String} {tb : List ExceptionTableEntry} {a b L : Nat} {xs : Nat → Int32} {r : eRes} {k Y : Nat} (hk : k < 40) (hY : Y < 2 ^ 31) {h : eH} {n c0 s0 ℓ c : Nat} {σ : St} {x : Nat → Nat} {τ τs : Nat → St} {us : Nat → Nat} (hO1 : eNB h b σ x ℓ c τ us τs) (hO2 : eNB h (b + 317) σ x ℓ c τ us τs) (hV : gU σ c τ us τs (200 * (k + 1) + 150)) (hc : c0 ≤ 1000 + 100 * k + 80) (hs : s0 ≤ 16000 + 500 * k + 390) (K : ∀ (g : eH) (n1 c1 s1 : Nat), lJ b (k + 1) g → c1 ≤ 1000 + 100 * (k + 1) → s1 ≤ 16000 + 500 * (k + 1) → eV (mLw mn tb a L xs) 52 (lvK a b (k + 1)) [] (g, n1, c1, s1) r 600104 7301314) : eV (mLw mn tb a L xs) 188 [(0, .ref a), (1, .ref b), (2, .ref (b + 317)), (3, .int (nI 1)), (4, .int (nI k)), (6, .int (nI Y))] [] (h, n, c0, s0) r 600104 7301314 := by
  have hT2 : 200 * (k + 1) + 150 + 2 < 2 ^ 20 := by omega
  have hT : 200 * (k + 1) + 150 < 2 ^ 20 := by omega
  refine ev_iload (i := 4) dL_law_188 (by repeat (first | with_reducible exact lk_h | ((with_reducible refine lk_e ?_); rfl) | refine lk_m ?_ rfl)) ?_
  refine ev_bipush (v := nI 13) dL_law_190 rfl ?_
  refine ev_iremN dL_law_192 (by omega) (by first | assumption | omega) (by omega) ?_
  refine ev_bipush (v := nI 12) dL_law_193 rfl ?_
  refine ev_icmp_neN (tgt := 237) dL_law_195 (by decide) (by omega) (by omega) (fun c_195 => ?_) (fun c_195 => ?_)
  · first
      | exact (law_237 hk hY hO1 hO2 hV (by omega) (by omega) K).sub1 ⟨(by repeat (first | with_reducible exact lk_h | ((with_reducible refine lk_e ?_); rfl) | refine lk_m ?_ rfl)), (by repeat (first | with_reducible exact lk_h | ((with_reducible refine lk_e ?_); rfl) | refine lk_m ?_ rfl)), (by repeat (first | with_reducible exact lk_h | ((with_reducible refine lk_e ?_); rfl) | refine lk_m ?_ rfl)), (by repeat (first | with_reducible exact lk_h | ((with_reducible refine lk_e ?_); rfl) | refine lk_m ?_ rfl)), (by repeat (first | with_reducible exact lk_h | ((with_reducible refine lk_e ?_); rfl) | refine lk_m ?_ rfl)), (by repeat (first | with_reducible exact lk_h | ((with_reducible refine lk_e ?_); rfl) | refine lk_m ?_ rfl)), trivial⟩ (eff_id rfl)
      | exact (law_237 hk hY hO1 (hO2.c0 τ) ((hV.save (s := 1)).restore (s := 1) (by decide) (by simp)) (by omega) (by omega) K).sub1 ⟨(by repeat (first | with_reducible exact lk_h | ((with_reducible refine lk_e ?_); rfl) | refine lk_m ?_ rfl)), (by repeat (first | with_reducible exact lk_h | ((with_reducible refine lk_e ?_); rfl) | refine lk_m ?_ rfl)), (by repeat (first | with_reducible exact lk_h | ((with_reducible refine lk_e ?_); rfl) | refine lk_m ?_ rfl)), (by repeat (first | with_reducible exact lk_h | ((with_reducible refine lk_e ?_); rfl) | refine lk_m ?_ rfl)), (by repeat (first | with_reducible exact lk_h | ((with_reducible refine lk_e ?_); rfl) | refine lk_m ?_ rfl)), (by repeat (first | with_reducible exact lk_h | ((with_reducible refine lk_e ?_); rfl) | refine lk_m ?_ rfl)), trivial⟩ (eff_id rfl)
  · refine ev_iload_n (i := 3) dL_law_198 rfl (by repeat (first | with_reducible exact lk_h | ((with_reducible refine lk_e ?_); rfl) | refine lk_m ?_ rfl)) ?_
    refine ev_if_eqN (tgt := 235) dL_law_199 (by decide) (by decide) (fun c => absurd c (by decide)) (fun _ => ?_)
    refine ev_aload_n (i := 2) dL_law_202 rfl (by repeat (first | with_reducible exact lk_h | ((with_reducible refine lk_e ?_); rfl) | refine lk_m ?_ rfl)) ?_
    refine ev_iload (i := 6) dL_law_203 (by repeat (first | with_reducible exact lk_h | ((with_reducible refine lk_e ?_); rfl) | refine lk_m ?_ rfl)) ?_
    refine ev_sxN dL_law_205 (c_L_follows hO2 hV.1 hT2 hY) lk_L_218 ⟨Nat.le_of_ble_eq_true rfl, Nat.le_of_ble_eq_true rfl⟩ rfl (Nat.le_of_ble_eq_true rfl) ⟨by omega, by omega⟩ (fun n_205 g_205 hg_205 => ?_)
    obtain ⟨⟨τ9, hO2⟩, fr_205⟩ := hg_205
    replace hO1 := hO1.fr (fun a h1 h2 => fr_205 a (by omega))
    refine ev_if_eqN (tgt := 235) dL_law_208 (by decide) (by decide) (fun c => absurd c (by decide)) (fun _ => ?_)
    refine ev_aload_n (i := 1) dL_law_211 rfl (by repeat (first | with_reducible exact lk_h | ((with_reducible refine lk_e ?_); rfl) | refine lk_m ?_ rfl)) ?_
    refine ev_iconst (v := nI 1) dL_law_212 rfl ?_
    refine ev_stW dL_law_213 (a_save (s := 1) hO1 hV.1 hT (by decide)) lk_L_149 ⟨Nat.le_of_ble_eq_true rfl, Nat.le_of_ble_eq_true rfl⟩ rfl (Nat.le_of_ble_eq_true rfl) ⟨by omega, by omega⟩ (fun n_213 g_213 hg_213 => ?_)
    obtain ⟨hO1, fr_213⟩ := hg_213
    replace hO2 := hO2.fr (fun a h1 h2 => fr_213 a (by omega))
    have h40 := (hV.1.ok hT).2.2.1
    refine ev_lconst (v := lN 0) dL_law_216 rfl ?_
    refine ev_lcN_lt (tgt := 235) dL_law_217 dL_law_218 (by decide) (by omega) (by omega) (fun c_217 => absurd c_217 (by omega)) (fun c_217 => ?_)
    refine ev_aload_n (i := 1) dL_law_221 rfl (by repeat (first | with_reducible exact lk_h | ((with_reducible refine lk_e ?_); rfl) | refine lk_m ?_ rfl)) ?_
    refine ev_iconst (v := nI 1) dL_law_222 rfl ?_
    refine ev_stW dL_law_223 (a_restoreS (σ' := σ) hO1 rfl (by simp) h40) lk_L_151 ⟨Nat.le_of_ble_eq_true rfl, Nat.le_of_ble_eq_true rfl⟩ rfl (Nat.le_of_ble_eq_true rfl) ⟨by omega, by omega⟩ (fun n_223 g_223 hg_223 => ?_)
    obtain ⟨hO1, fr_223⟩ := hg_223
    replace hO2 := hO2.fr (fun a h1 h2 => fr_223 a (by omega))
    refine ev_lconst (v := lN 0) dL_law_226 rfl ?_
    refine ev_lcN_lt (tgt := 235) dL_law_227 dL_law_228 (by decide) (by omega) (by omega) (fun c_227 => absurd c_227 (by omega)) (fun c_227 => ?_)
    refine ev_iconst (v := nI 1) dL_law_231 rfl ?_
    refine ev_goto (tgt := 236) dL_law_232 (by decide) ?_
    refine ev_istore_n (i := 3) dL_law_236 rfl (Nat.le_of_ble_eq_true rfl) ?_
    first
      | exact (law_237 hk hY hO1 hO2 hV (by omega) (by omega) K).sub1 ⟨(by repeat (first | with_reducible exact lk_h | ((with_reducible refine lk_e ?_); rfl) | refine lk_m ?_ rfl)), (by repeat (first | with_reducible exact lk_h | ((with_reducible refine lk_e ?_); rfl) | refine lk_m ?_ rfl)), (by repeat (first | with_reducible exact lk_h | ((with_reducible refine lk_e ?_); rfl) | refine lk_m ?_ rfl)), (by repeat (first | with_reducible exact lk_h | ((with_reducible refine lk_e ?_); rfl) | refine lk_m ?_ rfl)), (by repeat (first | with_reducible exact lk_h | ((with_reducible refine lk_e ?_); rfl) | refine lk_m ?_ rfl)), (by repeat (first | with_reducible exact lk_h | ((with_reducible refine lk_e ?_); rfl) | refine lk_m ?_ rfl)), trivial⟩ (eff_id rfl)
      | exact (law_237 hk hY hO1 (hO2.c0 τ) ((hV.save (s := 1)).restore (s := 1) (by decide) (by simp)) (by omega) (by omega) K).sub1 ⟨(by repeat (first | with_reducible exact lk_h | ((with_reducible refine lk_e ?_); rfl) | refine lk_m ?_ rfl)), (by repeat (first | with_reducible exact lk_h | ((with_reducible refine lk_e ?_); rfl) | refine lk_m ?_ rfl)), (by repeat (first | with_reducible exact lk_h | ((with_reducible refine lk_e ?_); rfl) | refine lk_m ?_ rfl)), (by repeat (first | with_reducible exact lk_h | ((with_reducible refine lk_e ?_); rfl) | refine lk_m ?_ rfl)), (by repeat (first | with_reducible exact lk_h | ((with_reducible refine lk_e ?_); rfl) | refine lk_m ?_ rfl)), (by repeat (first | with_reducible exact lk_h | ((with_reducible refine lk_e ?_); rfl) | refine lk_m ?_ rfl)), trivial⟩ (eff_id rfl)
set_option maxHeartbeats 4000000 in
set_option maxRecDepth 20000 in
theorem law_155 {mn : String} {tb : List ExceptionTableEntry} {a b L : Nat} {xs : Nat → Int32} {r : eRes} {k Y : Nat} (hk : k < 40) (hY : Y < 2 ^ 31) {h : eH} {n c0 s0 ℓ c : Nat} {σ : St} {x : Nat → Nat} {τ τs : Nat → St} {us : Nat → Nat} (hO1 : eNB h b σ x ℓ c τ us τs) (hO2 : eNB h (b + 317) σ x ℓ c τ us τs) (hV : gU σ c τ us τs (200 * (k + 1) + 150)) (hc : c0 ≤ 1000 + 100 * k + 5) (hs : s0 ≤ 16000 + 500 * k + 20) (K : ∀ (g : eH) (n1 c1 s1 : Nat), lJ b (k + 1) g → c1 ≤ 1000 + 100 * (k + 1) → s1 ≤ 16000 + 500 * (k + 1) → eV (mLw mn tb a L xs) 52 (lvK a b (k + 1)) [] (g, n1, c1, s1) r 600104 7301314) : eV (mLw mn tb a L xs) 155 [(0, .ref a), (1, .ref b), (2, .ref (b + 317)), (3, .int (nI 1)), (4, .int (nI k)), (6, .int (nI Y))] [] (h, n, c0, s0) r 600104 7301314 := by
  have hT2 : 200 * (k + 1) + 150 + 2 < 2 ^ 20 := by omega
  have hT : 200 * (k + 1) + 150 < 2 ^ 20 := by omega
  refine ev_iload (i := 4) dL_law_155 (by repeat (first | with_reducible exact lk_h | ((with_reducible refine lk_e ?_); rfl) | refine lk_m ?_ rfl)) ?_
  refine ev_bipush (v := nI 8) dL_law_157 rfl ?_
  refine ev_iremN dL_law_159 (by omega) (by first | assumption | omega) (by omega) ?_
  refine ev_iconst (v := nI 3) dL_law_160 rfl ?_
  refine ev_icmp_neN (tgt := 188) dL_law_161 (by decide) (by omega) (by omega) (fun c_161 => ?_) (fun c_161 => ?_)
  · exact (law_188 hk hY hO1 hO2 hV (by omega) (by omega) K).sub1 ⟨(by repeat (first | with_reducible exact lk_h | ((with_reducible refine lk_e ?_); rfl) | refine lk_m ?_ rfl)), (by repeat (first | with_reducible exact lk_h | ((with_reducible refine lk_e ?_); rfl) | refine lk_m ?_ rfl)), (by repeat (first | with_reducible exact lk_h | ((with_reducible refine lk_e ?_); rfl) | refine lk_m ?_ rfl)), (by repeat (first | with_reducible exact lk_h | ((with_reducible refine lk_e ?_); rfl) | refine lk_m ?_ rfl)), (by repeat (first | with_reducible exact lk_h | ((with_reducible refine lk_e ?_); rfl) | refine lk_m ?_ rfl)), (by repeat (first | with_reducible exact lk_h | ((with_reducible refine lk_e ?_); rfl) | refine lk_m ?_ rfl)), trivial⟩ (eff_id rfl)
  · refine ev_iload_n (i := 3) dL_law_164 rfl (by repeat (first | with_reducible exact lk_h | ((with_reducible refine lk_e ?_); rfl) | refine lk_m ?_ rfl)) ?_
    refine ev_if_eqN (tgt := 186) dL_law_165 (by decide) (by decide) (fun c => absurd c (by decide)) (fun _ => ?_)
    refine ev_aload_n (i := 2) dL_law_168 rfl (by repeat (first | with_reducible exact lk_h | ((with_reducible refine lk_e ?_); rfl) | refine lk_m ?_ rfl)) ?_
    refine ev_rcN dL_law_169 (c_L_errors hO2 hV.1 hT) lk_L_202 ⟨Nat.le_of_ble_eq_true rfl, Nat.le_of_ble_eq_true rfl⟩ rfl (Nat.le_of_ble_eq_true rfl) ⟨by omega, by omega⟩ (fun n_169 => ?_)
    refine ev_if_eqN (tgt := 186) dL_law_172 (by decide) (by decide) (fun c => absurd c (by decide)) (fun _ => ?_)
    refine ev_aload_n (i := 2) dL_law_175 rfl (by repeat (first | with_reducible exact lk_h | ((with_reducible refine lk_e ?_); rfl) | refine lk_m ?_ rfl)) ?_
    refine ev_roN dL_law_176 (c_L_kept hO2 hV.1 hT) lk_L_206 ⟨Nat.le_of_ble_eq_true rfl, Nat.le_of_ble_eq_true rfl⟩ rfl (Nat.le_of_ble_eq_true rfl) ⟨by omega, by omega⟩ (fun n_176 => ?_)
    refine ev_if_eqN (tgt := 186) dL_law_179 (by decide) (by decide) (fun c => absurd c (by decide)) (fun _ => ?_)
    refine ev_iconst (v := nI 1) dL_law_182 rfl ?_
    refine ev_goto (tgt := 187) dL_law_183 (by decide) ?_
    refine ev_istore_n (i := 3) dL_law_187 rfl (Nat.le_of_ble_eq_true rfl) ?_
    exact (law_188 hk hY hO1 hO2 hV (by omega) (by omega) K).sub1 ⟨(by repeat (first | with_reducible exact lk_h | ((with_reducible refine lk_e ?_); rfl) | refine lk_m ?_ rfl)), (by repeat (first | with_reducible exact lk_h | ((with_reducible refine lk_e ?_); rfl) | refine lk_m ?_ rfl)), (by repeat (first | with_reducible exact lk_h | ((with_reducible refine lk_e ?_); rfl) | refine lk_m ?_ rfl)), (by repeat (first | with_reducible exact lk_h | ((with_reducible refine lk_e ?_); rfl) | refine lk_m ?_ rfl)), (by repeat (first | with_reducible exact lk_h | ((with_reducible refine lk_e ?_); rfl) | refine lk_m ?_ rfl)), (by repeat (first | with_reducible exact lk_h | ((with_reducible refine lk_e ?_); rfl) | refine lk_m ?_ rfl)), trivial⟩ (eff_id rfl)
set_option maxHeartbeats 4000000 in
set_option maxRecDepth 20000 in
theorem law_129 {mn : String} {tb : List ExceptionTableEntry} {a b L : Nat} {xs : Nat → Int32} {r : eRes} {k X Y : Nat} (hk : k < 40) (hX : X < 2 ^ 31) (hY : Y < 2 ^ 31) {h : eH} {n c0 s0 ℓ c : Nat} {σ : St} {x : Nat → Nat} {τ τs : Nat → St} {us : Nat → Nat} (hO1 : eNB h b σ x ℓ c τ us τs) (hO2 : eNB h (b + 317) σ x ℓ c τ us τs) (hV : gU σ c τ us τs (200 * (k + 1))) (hc : c0 ≤ 1000 + 100 * k + 0) (hs : s0 ≤ 16000 + 500 * k + 0) (K : ∀ (g : eH) (n1 c1 s1 : Nat), lJ b (k + 1) g → c1 ≤ 1000 + 100 * (k + 1) → s1 ≤ 16000 + 500 * (k + 1) → eV (mLw mn tb a L xs) 52 (lvK a b (k + 1)) [] (g, n1, c1, s1) r 600104 7301314) : eV (mLw mn tb a L xs) 129 [(0, .ref a), (1, .ref b), (2, .ref (b + 317)), (3, .int (nI 1)), (4, .int (nI k)), (5, .int (nI X)), (6, .int (nI Y))] [] (h, n, c0, s0) r 600104 7301314 := by
  obtain ⟨v, σ', c', τ', us', τs', hV', hact⟩ := c_L_act (x := x) (ℓ := ℓ) (X := X) (Y := Y) hV hO1.c14 (by omega) hX hY
  replace hV := hV'.mono (show 200 * (k + 1) + 2 ≤ 200 * (k + 1) + 150 by omega)
  refine ev_aload_n (i := 1) dL_law_129 rfl (by repeat (first | with_reducible exact lk_h | ((with_reducible refine lk_e ?_); rfl) | refine lk_m ?_ rfl)) ?_
  refine ev_iload (i := 5) dL_law_130 (by repeat (first | with_reducible exact lk_h | ((with_reducible refine lk_e ?_); rfl) | refine lk_m ?_ rfl)) ?_
  refine ev_iload (i := 6) dL_law_132 (by repeat (first | with_reducible exact lk_h | ((with_reducible refine lk_e ?_); rfl) | refine lk_m ?_ rfl)) ?_
  refine ev_sxN dL_law_134 (hact _ _ _ hO1) lk_L_215 ⟨Nat.le_of_ble_eq_true rfl, Nat.le_of_ble_eq_true rfl⟩ rfl (Nat.le_of_ble_eq_true rfl) ⟨by omega, by omega⟩ (fun n_134 g_134 hg_134 => ?_)
  obtain ⟨hO1, fr_134⟩ := hg_134
  replace hO2 := hO2.fr (fun a h1 h2 => fr_134 a (by omega))
  refine ev_aload_n (i := 2) dL_law_137 rfl (by repeat (first | with_reducible exact lk_h | ((with_reducible refine lk_e ?_); rfl) | refine lk_m ?_ rfl)) ?_
  refine ev_iload (i := 5) dL_law_138 (by repeat (first | with_reducible exact lk_h | ((with_reducible refine lk_e ?_); rfl) | refine lk_m ?_ rfl)) ?_
  refine ev_iload (i := 6) dL_law_140 (by repeat (first | with_reducible exact lk_h | ((with_reducible refine lk_e ?_); rfl) | refine lk_m ?_ rfl)) ?_
  refine ev_sxN dL_law_142 (hact _ _ _ hO2) lk_L_215 ⟨Nat.le_of_ble_eq_true rfl, Nat.le_of_ble_eq_true rfl⟩ rfl (Nat.le_of_ble_eq_true rfl) ⟨by omega, by omega⟩ (fun n_142 g_142 hg_142 => ?_)
  obtain ⟨hO2, fr_142⟩ := hg_142
  replace hO1 := hO1.fr (fun a h1 h2 => fr_142 a (by omega))
  refine ev_lcS_ne (tgt := 153) dL_law_145 dL_law_146 (by decide) (by rfl) ?_
  refine ev_iconst (v := nI 1) dL_law_149 rfl ?_
  refine ev_goto (tgt := 154) dL_law_150 (by decide) ?_
  refine ev_istore_n (i := 3) dL_law_154 rfl (Nat.le_of_ble_eq_true rfl) ?_
  exact (law_155 hk hY hO1 hO2 hV (by omega) (by omega) K).sub1 ⟨(by repeat (first | with_reducible exact lk_h | ((with_reducible refine lk_e ?_); rfl) | refine lk_m ?_ rfl)), (by repeat (first | with_reducible exact lk_h | ((with_reducible refine lk_e ?_); rfl) | refine lk_m ?_ rfl)), (by repeat (first | with_reducible exact lk_h | ((with_reducible refine lk_e ?_); rfl) | refine lk_m ?_ rfl)), (by repeat (first | with_reducible exact lk_h | ((with_reducible refine lk_e ?_); rfl) | refine lk_m ?_ rfl)), (by repeat (first | with_reducible exact lk_h | ((with_reducible refine lk_e ?_); rfl) | refine lk_m ?_ rfl)), (by repeat (first | with_reducible exact lk_h | ((with_reducible refine lk_e ?_); rfl) | refine lk_m ?_ rfl)), trivial⟩ (eff_id rfl)
set_option maxHeartbeats 4000000 in
set_option maxRecDepth 20000 in
theorem law_90 {mn : String} {tb : List ExceptionTableEntry} {a b L : Nat} {xs : Nat → Int32} {r : eRes} {k X Y : Nat} (hk : k < 40) (hX : X < 2 ^ 31) (hY : Y < 2 ^ 31) {h : eH} {n c0 s0 ℓ c : Nat} {σ : St} {x : Nat → Nat} {τ τs : Nat → St} {us : Nat → Nat} (hO1 : eNB h b σ x ℓ c τ us τs) (hO2 : eNB h (b + 317) σ x ℓ c τ us τs) (hV : gU σ c τ us τs (200 * (k + 1))) (hc : c0 ≤ 1000 + 100 * k + 0) (hs : s0 ≤ 16000 + 500 * k + 0) (K : ∀ (g : eH) (n1 c1 s1 : Nat), lJ b (k + 1) g → c1 ≤ 1000 + 100 * (k + 1) → s1 ≤ 16000 + 500 * (k + 1) → eV (mLw mn tb a L xs) 52 (lvK a b (k + 1)) [] (g, n1, c1, s1) r 600104 7301314) : eV (mLw mn tb a L xs) 90 [(0, .ref a), (1, .ref b), (2, .ref (b + 317)), (3, .int (nI 1)), (4, .int (nI k)), (5, .int (nI X)), (6, .int (nI Y))] [] (h, n, c0, s0) r 600104 7301314 := by
  refine ev_aload_n (i := 1) dL_law_90 rfl (by repeat (first | with_reducible exact lk_h | ((with_reducible refine lk_e ?_); rfl) | refine lk_m ?_ rfl)) ?_
  refine ev_iload (i := 5) dL_law_91 (by repeat (first | with_reducible exact lk_h | ((with_reducible refine lk_e ?_); rfl) | refine lk_m ?_ rfl)) ?_
  refine ev_stN dL_law_93 (c_L_told hO1 hX) lk_L_209 ⟨Nat.le_of_ble_eq_true rfl, Nat.le_of_ble_eq_true rfl⟩ rfl (Nat.le_of_ble_eq_true rfl) ⟨by omega, by omega⟩ (fun n_93 g_93 hg_93 => ?_)
  obtain ⟨hO1, fr_93⟩ := hg_93
  replace hO2 := hO2.fr (fun a h1 h2 => fr_93 a (by omega))
  refine ev_if_eqN (tgt := 124) dL_law_96 (by decide) (by decide) (fun c => absurd c (by decide)) (fun _ => ?_)
  refine ev_aload_n (i := 2) dL_law_99 rfl (by repeat (first | with_reducible exact lk_h | ((with_reducible refine lk_e ?_); rfl) | refine lk_m ?_ rfl)) ?_
  refine ev_iload (i := 5) dL_law_100 (by repeat (first | with_reducible exact lk_h | ((with_reducible refine lk_e ?_); rfl) | refine lk_m ?_ rfl)) ?_
  refine ev_stN dL_law_102 (c_L_told hO2 hX) lk_L_209 ⟨Nat.le_of_ble_eq_true rfl, Nat.le_of_ble_eq_true rfl⟩ rfl (Nat.le_of_ble_eq_true rfl) ⟨by omega, by omega⟩ (fun n_102 g_102 hg_102 => ?_)
  obtain ⟨hO2, fr_102⟩ := hg_102
  replace hO1 := hO1.fr (fun a h1 h2 => fr_102 a (by omega))
  refine ev_if_eqN (tgt := 124) dL_law_105 (by decide) (by decide) (fun c => absurd c (by decide)) (fun _ => ?_)
  refine ev_aload_n (i := 1) dL_law_108 rfl (by repeat (first | with_reducible exact lk_h | ((with_reducible refine lk_e ?_); rfl) | refine lk_m ?_ rfl)) ?_
  refine ev_stW dL_law_109 (w_load rfl hO1.1 (c_X10_load hO1 (fT_ok X x _))) lk_L_213 ⟨Nat.le_of_ble_eq_true rfl, Nat.le_of_ble_eq_true rfl⟩ rfl (Nat.le_of_ble_eq_true rfl) ⟨by omega, by omega⟩ (fun n_109 g_109 hg_109 => ?_)
  obtain ⟨hO1, fr_109⟩ := hg_109
  replace hO2 := hO2.fr (fun a h1 h2 => fr_109 a (by omega))
  refine ev_aload_n (i := 2) dL_law_112 rfl (by repeat (first | with_reducible exact lk_h | ((with_reducible refine lk_e ?_); rfl) | refine lk_m ?_ rfl)) ?_
  refine ev_stW dL_law_113 (w_load rfl hO2.1 (c_X10_load hO2 (fT_ok X x _))) lk_L_213 ⟨Nat.le_of_ble_eq_true rfl, Nat.le_of_ble_eq_true rfl⟩ rfl (Nat.le_of_ble_eq_true rfl) ⟨by omega, by omega⟩ (fun n_113 g_113 hg_113 => ?_)
  obtain ⟨hO2, fr_113⟩ := hg_113
  replace hO1 := hO1.fr (fun a h1 h2 => fr_113 a (by omega))
  refine ev_lcS_ne (tgt := 124) dL_law_116 dL_law_117 (by decide) (by rfl) ?_
  refine ev_iconst (v := nI 1) dL_law_120 rfl ?_
  refine ev_goto (tgt := 125) dL_law_121 (by decide) ?_
  refine ev_istore_n (i := 3) dL_law_125 rfl (Nat.le_of_ble_eq_true rfl) ?_
  refine ev_goto (tgt := 265) dL_law_126 (by decide) ?_
  refine ev_iincN dL_law_265 (by repeat (first | with_reducible exact lk_h | ((with_reducible refine lk_e ?_); rfl) | refine lk_m ?_ rfl)) (Nat.le_of_ble_eq_true rfl) ?_
  refine ev_goto (tgt := 52) dL_law_268 (by decide) ?_
  exact (K _ _ _ _ ⟨_, _, _, _, _, _, _, hO1, hO2, hV.load ((gI_ld 120 _ _ _ 0 ⟨eIv_new, sGd_new, sKp_new⟩).mono (by omega))⟩ (by omega) (by omega)).sub1 ⟨(by repeat (first | with_reducible exact lk_h | ((with_reducible refine lk_e ?_); rfl) | refine lk_m ?_ rfl)), (by repeat (first | with_reducible exact lk_h | ((with_reducible refine lk_e ?_); rfl) | refine lk_m ?_ rfl)), (by repeat (first | with_reducible exact lk_h | ((with_reducible refine lk_e ?_); rfl) | refine lk_m ?_ rfl)), (by repeat (first | with_reducible exact lk_h | ((with_reducible refine lk_e ?_); rfl) | refine lk_m ?_ rfl)), (by repeat (first | with_reducible exact lk_h | ((with_reducible refine lk_e ?_); rfl) | refine lk_m ?_ rfl)), trivial⟩ (eff_id rfl)
set_option maxHeartbeats 4000000 in
set_option maxRecDepth 20000 in
theorem law_271 {mn : String} {tb : List ExceptionTableEntry} {a b L : Nat} {xs : Nat → Int32} {r : eRes} (h1 : r.1 = .inl (some (.int (nI 1)))) (h2 : ∀ g, r.2.1 g) (h3 : r.2.2 = none) {h : eH} {n c0 s0 : Nat} (hJ : lJ b 40 h) (hc : c0 ≤ 6000) (hs : s0 ≤ 40000) : eV (mLw mn tb a L xs) 271 (lvK a b 40) [] (h, n, c0, s0) r 600104 7301314 := by
  obtain ⟨σ, x, ℓ, c, τ, us, τs, hO1, hO2, hV⟩ := hJ
  refine ev_iload_n (i := 3) dL_law_271 rfl (by repeat (first | with_reducible exact lk_h | ((with_reducible refine lk_e ?_); rfl) | refine lk_m ?_ rfl)) ?_
  refine ev_if_eqN (tgt := 290) dL_law_272 (by decide) (by decide) (fun c => absurd c (by decide)) (fun _ => ?_)
  refine ev_aload_n (i := 1) dL_law_275 rfl (by repeat (first | with_reducible exact lk_h | ((with_reducible refine lk_e ?_); rfl) | refine lk_m ?_ rfl)) ?_
  refine ev_aload_n (i := 2) dL_law_276 rfl (by repeat (first | with_reducible exact lk_h | ((with_reducible refine lk_e ?_); rfl) | refine lk_m ?_ rfl)) ?_
  refine ev_sipush (v := nI 10859) dL_law_277 rfl ?_
  refine ev_sxN dL_law_280 (c_L_alike hO1 hO2 hV.1 (by omega) (by omega)) lk_L_198 ⟨Nat.le_of_ble_eq_true rfl, Nat.le_of_ble_eq_true rfl⟩ rfl (Nat.le_of_ble_eq_true rfl) ⟨by omega, by omega⟩ (fun n_280 g_280 hg_280 => ?_)
  obtain ⟨hO1, hO2⟩ := hg_280
  refine ev_if_eqN (tgt := 290) dL_law_283 (by decide) (by decide) (fun c => absurd c (by decide)) (fun _ => ?_)
  refine ev_iconst (v := nI 1) dL_law_286 rfl ?_
  refine ev_goto (tgt := 291) dL_law_287 (by decide) ?_
  exact ev_iret (ty := .boolean) dL_law_291 rfl rfl h1 (h2 _) (fun k e => absurd e (by rw [h3]; simp)) (by omega) (by omega)
set_option maxHeartbeats 4000000 in
set_option maxRecDepth 20000 in
theorem law_52 {mn : String} {tb : List ExceptionTableEntry} {a b L : Nat} {xs : Nat → Int32} {r : eRes} (h1 : r.1 = .inl (some (.int (nI 1)))) (h2 : ∀ g, r.2.1 g) (h3 : r.2.2 = none) (hL : L < 2 ^ 31) : ∀ (g : eH) (n_0 c0 s0 k : Nat), lJ b k g → k ≤ 40 → c0 ≤ 1000 + 100 * k → s0 ≤ 16000 + 500 * k → eV (mLw mn tb a L xs) 52 (lvK a b k) [] (g, n_0, c0, s0) r 600104 7301314 := by
  intro g n_0 c0 s0 k hJ hk hc hs
  have H_52 : ∀ (d_52 : Nat) (g : eH) (n_0 c0 s0 k : Nat), d_52 = 40 - k → (lJ b k g) → (k ≤ 40) → (c0 ≤ 1000 + 100 * k) → (s0 ≤ 16000 + 500 * k) → eV (mLw mn tb a L xs) 52 (lvK a b k) [] (g, n_0, c0, s0) r 600104 7301314 := by
    intro d_52
    induction d_52 using Nat.strongRecOn with
    | _ d_52 ih_52 =>
    intro g n_0 c0 s0 k hd_52 hJ hk hc hs
    refine ev_iload (i := 4) dL_law_52 (by repeat (first | with_reducible exact lk_h | ((with_reducible refine lk_e ?_); rfl) | refine lk_m ?_ rfl)) ?_
    refine ev_bipush (v := nI 40) dL_law_54 rfl ?_
    refine ev_icmp_geN (tgt := 271) dL_law_56 (by decide) (by omega) (by omega) (fun c_56 => ?_) (fun c_56 => ?_)
    · have ek : k = 40 := by omega
      subst ek
      exact law_271 h1 h2 h3 hJ (by omega) (by omega)
    · refine ev_iload_n (i := 3) dL_law_59 rfl (by repeat (first | with_reducible exact lk_h | ((with_reducible refine lk_e ?_); rfl) | refine lk_m ?_ rfl)) ?_
      refine ev_if_eqN (tgt := 271) dL_law_60 (by decide) (by decide) (fun c => absurd c (by decide)) (fun _ => ?_)
      obtain ⟨X, hX, hdX⟩ := c_L_draw (a := a) (L := L) (xs := xs) (k := 2 * k) hL (by omega)
      obtain ⟨Y, hY, hdY⟩ := c_L_draw (a := a) (L := L) (xs := xs) (k := 2 * k + 1) hL (by omega)
      obtain ⟨σ, x, ℓ, c, τ, us, τs, hO1, hO2, hV⟩ := hJ
      refine ev_aload_n (i := 0) dL_law_63 rfl (by repeat (first | with_reducible exact lk_h | ((with_reducible refine lk_e ?_); rfl) | refine lk_m ?_ rfl)) ?_
      refine ev_iconst (v := nI 2) dL_law_64 rfl ?_
      refine ev_iload (i := 4) dL_law_65 (by repeat (first | with_reducible exact lk_h | ((with_reducible refine lk_e ?_); rfl) | refine lk_m ?_ rfl)) ?_
      refine ev_imulN dL_law_67 ?_
      refine ev_callSS dL_law_68 rfl (hdX _ _) lk_L_194 ⟨Nat.le_of_ble_eq_true rfl, Nat.le_of_ble_eq_true rfl⟩ rfl (Nat.le_of_ble_eq_true rfl) ⟨by omega, by omega⟩ (eRn (fun n_9 => ?_))
      refine ev_istore (i := 5) dL_law_71 (Nat.le_of_ble_eq_true rfl) ?_
      refine ev_aload_n (i := 0) dL_law_73 rfl (by repeat (first | with_reducible exact lk_h | ((with_reducible refine lk_e ?_); rfl) | refine lk_m ?_ rfl)) ?_
      refine ev_iconst (v := nI 2) dL_law_74 rfl ?_
      refine ev_iload (i := 4) dL_law_75 (by repeat (first | with_reducible exact lk_h | ((with_reducible refine lk_e ?_); rfl) | refine lk_m ?_ rfl)) ?_
      refine ev_imulN dL_law_77 ?_
      refine ev_iconst (v := nI 1) dL_law_78 rfl ?_
      refine ev_iaddN dL_law_79 ?_
      refine ev_callSS dL_law_80 rfl (hdY _ _) lk_L_194 ⟨Nat.le_of_ble_eq_true rfl, Nat.le_of_ble_eq_true rfl⟩ rfl (Nat.le_of_ble_eq_true rfl) ⟨by omega, by omega⟩ (eRn (fun n_9 => ?_))
      refine ev_istore (i := 6) dL_law_83 (Nat.le_of_ble_eq_true rfl) ?_
      refine ev_iload (i := 4) dL_law_85 (by repeat (first | with_reducible exact lk_h | ((with_reducible refine lk_e ?_); rfl) | refine lk_m ?_ rfl)) ?_
      refine ev_if_neN (tgt := 129) dL_law_87 (by decide) (by omega) (fun c_87 => ?_) (fun c_87 => ?_)
      · exact (law_129 (by omega) hX hY hO1 hO2 hV (by omega) (by omega) (fun g n1 c1 s1 hJ hc hs => ih_52 _ (by omega) g n1 c1 s1 (k + 1) rfl hJ (by omega) hc hs)).sub1 ⟨(by repeat (first | with_reducible exact lk_h | ((with_reducible refine lk_e ?_); rfl) | refine lk_m ?_ rfl)), (by repeat (first | with_reducible exact lk_h | ((with_reducible refine lk_e ?_); rfl) | refine lk_m ?_ rfl)), (by repeat (first | with_reducible exact lk_h | ((with_reducible refine lk_e ?_); rfl) | refine lk_m ?_ rfl)), (by repeat (first | with_reducible exact lk_h | ((with_reducible refine lk_e ?_); rfl) | refine lk_m ?_ rfl)), (by repeat (first | with_reducible exact lk_h | ((with_reducible refine lk_e ?_); rfl) | refine lk_m ?_ rfl)), (by repeat (first | with_reducible exact lk_h | ((with_reducible refine lk_e ?_); rfl) | refine lk_m ?_ rfl)), (by repeat (first | with_reducible exact lk_h | ((with_reducible refine lk_e ?_); rfl) | refine lk_m ?_ rfl)), trivial⟩ (eff_id rfl)
      · exact (law_90 (by omega) hX hY hO1 hO2 hV (by omega) (by omega) (fun g n1 c1 s1 hJ hc hs => ih_52 _ (by omega) g n1 c1 s1 (k + 1) rfl hJ (by omega) hc hs)).sub1 ⟨(by repeat (first | with_reducible exact lk_h | ((with_reducible refine lk_e ?_); rfl) | refine lk_m ?_ rfl)), (by repeat (first | with_reducible exact lk_h | ((with_reducible refine lk_e ?_); rfl) | refine lk_m ?_ rfl)), (by repeat (first | with_reducible exact lk_h | ((with_reducible refine lk_e ?_); rfl) | refine lk_m ?_ rfl)), (by repeat (first | with_reducible exact lk_h | ((with_reducible refine lk_e ?_); rfl) | refine lk_m ?_ rfl)), (by repeat (first | with_reducible exact lk_h | ((with_reducible refine lk_e ?_); rfl) | refine lk_m ?_ rfl)), (by repeat (first | with_reducible exact lk_h | ((with_reducible refine lk_e ?_); rfl) | refine lk_m ?_ rfl)), (by repeat (first | with_reducible exact lk_h | ((with_reducible refine lk_e ?_); rfl) | refine lk_m ?_ rfl)), trivial⟩ (eff_id rfl)
  exact (H_52 _ g n_0 c0 s0 k rfl (by exact hJ) (by exact hk) (by exact hc) (by exact hs)).sub1 ⟨(by repeat (first | with_reducible exact lk_h | ((with_reducible refine lk_e ?_); rfl) | refine lk_m ?_ rfl)), (by repeat (first | with_reducible exact lk_h | ((with_reducible refine lk_e ?_); rfl) | refine lk_m ?_ rfl)), (by repeat (first | with_reducible exact lk_h | ((with_reducible refine lk_e ?_); rfl) | refine lk_m ?_ rfl)), (by repeat (first | with_reducible exact lk_h | ((with_reducible refine lk_e ?_); rfl) | refine lk_m ?_ rfl)), (by repeat (first | with_reducible exact lk_h | ((with_reducible refine lk_e ?_); rfl) | refine lk_m ?_ rfl)), trivial⟩ (eff_id rfl)
set_option maxHeartbeats 4000000 in
set_option maxRecDepth 20000 in
theorem law_16 {mn : String} {tb : List ExceptionTableEntry} {a b L : Nat} {xs : Nat → Int32} {r : eRes} (h1 : r.1 = .inl (some (.int (nI 1)))) (h2 : ∀ g, r.2.1 g) (h3 : r.2.2 = none) (hL : L < 2 ^ 31) {X n ℓ c : Nat} {h : eH} {σ : St} {x : Nat → Nat} {τ τs : Nat → St} {us : Nat → Nat} (hX : X < 2 ^ 31) (hdX : ∀ (h : eH) (n : Nat), eMS yL_draw (.code yL_draw cL_draw 2 (some .int)) 0 0 [.ref a, .int (nI 0)] h n a L xs (.inl (some (.int (nI X))), (· = h), none) 0 0) (hO1 : eNB h b σ x ℓ c τ us τs) (hO2 : eNB h (b + 317) σ x ℓ c τ us τs) (hV : gU σ c τ us τs 0) : eV (mLw mn tb a L xs) 16 [(0, .ref a), (1, .ref b), (2, .ref (b + 317))] [] (h, n, 634, 14952) r 600104 7301314 := by
  refine ev_aload_n (i := 1) dL_law_16 rfl (by repeat (first | with_reducible exact lk_h | ((with_reducible refine lk_e ?_); rfl) | refine lk_m ?_ rfl)) ?_
  refine ev_aload_n (i := 2) dL_law_17 rfl (by repeat (first | with_reducible exact lk_h | ((with_reducible refine lk_e ?_); rfl) | refine lk_m ?_ rfl)) ?_
  refine ev_aload_n (i := 0) dL_law_18 rfl (by repeat (first | with_reducible exact lk_h | ((with_reducible refine lk_e ?_); rfl) | refine lk_m ?_ rfl)) ?_
  refine ev_iconst (v := nI 0) dL_law_19 rfl ?_
  refine ev_callSS dL_law_20 rfl (hdX _ _) lk_L_194 ⟨Nat.le_of_ble_eq_true rfl, Nat.le_of_ble_eq_true rfl⟩ rfl (Nat.le_of_ble_eq_true rfl) ⟨by omega, by omega⟩ (eRn (fun n_9 => ?_))
  refine ev_sxN dL_law_23 (c_L_alike hO1 hO2 hV.1 (by omega) hX) lk_L_198 ⟨Nat.le_of_ble_eq_true rfl, Nat.le_of_ble_eq_true rfl⟩ rfl (Nat.le_of_ble_eq_true rfl) ⟨by omega, by omega⟩ (fun n_23 g_23 hg_23 => ?_)
  obtain ⟨hO1, hO2⟩ := hg_23
  refine ev_if_eqN (tgt := 47) dL_law_26 (by decide) (by decide) (fun c => absurd c (by decide)) (fun _ => ?_)
  refine ev_aload_n (i := 1) dL_law_29 rfl (by repeat (first | with_reducible exact lk_h | ((with_reducible refine lk_e ?_); rfl) | refine lk_m ?_ rfl)) ?_
  refine ev_rcN dL_law_30 (c_L_errors hO1 hV.1 (by omega)) lk_L_202 ⟨Nat.le_of_ble_eq_true rfl, Nat.le_of_ble_eq_true rfl⟩ rfl (Nat.le_of_ble_eq_true rfl) ⟨by omega, by omega⟩ (fun n_30 => ?_)
  refine ev_if_eqN (tgt := 47) dL_law_33 (by decide) (by decide) (fun c => absurd c (by decide)) (fun _ => ?_)
  refine ev_aload_n (i := 1) dL_law_36 rfl (by repeat (first | with_reducible exact lk_h | ((with_reducible refine lk_e ?_); rfl) | refine lk_m ?_ rfl)) ?_
  refine ev_roN dL_law_37 (c_L_kept hO1 hV.1 (by omega)) lk_L_206 ⟨Nat.le_of_ble_eq_true rfl, Nat.le_of_ble_eq_true rfl⟩ rfl (Nat.le_of_ble_eq_true rfl) ⟨by omega, by omega⟩ (fun n_37 => ?_)
  refine ev_if_eqN (tgt := 47) dL_law_40 (by decide) (by decide) (fun c => absurd c (by decide)) (fun _ => ?_)
  refine ev_iconst (v := nI 1) dL_law_43 rfl ?_
  refine ev_goto (tgt := 48) dL_law_44 (by decide) ?_
  refine ev_istore_n (i := 3) dL_law_48 rfl (Nat.le_of_ble_eq_true rfl) ?_
  refine ev_iconst (v := nI 0) dL_law_49 rfl ?_
  refine ev_istore (i := 4) dL_law_50 (Nat.le_of_ble_eq_true rfl) ?_
  exact (law_52 h1 h2 h3 hL _ _ _ _ 0 ⟨_, _, _, _, _, _, _, hO1, hO2, hV.mono (by omega)⟩ (by omega) (by omega) (by omega)).sub1 ⟨(by repeat (first | with_reducible exact lk_h | ((with_reducible refine lk_e ?_); rfl) | refine lk_m ?_ rfl)), (by repeat (first | with_reducible exact lk_h | ((with_reducible refine lk_e ?_); rfl) | refine lk_m ?_ rfl)), (by repeat (first | with_reducible exact lk_h | ((with_reducible refine lk_e ?_); rfl) | refine lk_m ?_ rfl)), (by repeat (first | with_reducible exact lk_h | ((with_reducible refine lk_e ?_); rfl) | refine lk_m ?_ rfl)), (by repeat (first | with_reducible exact lk_h | ((with_reducible refine lk_e ?_); rfl) | refine lk_m ?_ rfl)), trivial⟩ (eff_id rfl)
set_option maxHeartbeats 4000000 in
theorem law_all {mn : String} {tb : List ExceptionTableEntry} {a b L : Nat} {xs : Nat → Int32} {r : eRes} (h1 : r.1 = .inl (some (.int (nI 1)))) (h2 : ∀ g, r.2.1 g) (h3 : r.2.2 = none) (hL : L < 2 ^ 31) : eV (mLw mn tb a L xs) 0 [(0, .ref a)] [] ((fun _ => none), b, 0, 0) r 600104 7301314 := by
  refine ev_new (ci := 7) (fs := [.null, .null, .null, .null, .null, .null]) dL_law_0 rfl wu_X10 tyX10_ok wk_L_10 wt_X10 wi_X10 (fun j hj => by
    have hj : j < 6 := hj
    rcases (by omega : j = 0 ∨ j = 1 ∨ j = 2 ∨ j = 3 ∨ j = 4 ∨ j = 5) with rfl | rfl | rfl | rfl | rfl | rfl <;> rfl) (Nat.le_of_ble_eq_true rfl) (Nat.le_of_ble_eq_true rfl) ?_
  refine ev_dup dL_law_3 rfl ?_
  refine ev_callI dL_law_4 (c_X10_init (eU_s _ _ _)) lk_L_193 ⟨Nat.le_of_ble_eq_true rfl, Nat.le_of_ble_eq_true rfl⟩ rfl (Nat.le_of_ble_eq_true rfl) ⟨Nat.le_of_ble_eq_true rfl, Nat.le_of_ble_eq_true rfl⟩ (fun g hg => ?_)
  obtain ⟨hO, -⟩ := hg
  refine ev_astore_n (i := 1) dL_law_7 rfl (Nat.le_of_ble_eq_true rfl) ?_
  refine ev_new (ci := 7) (fs := [.null, .null, .null, .null, .null, .null]) dL_law_8 rfl wu_X10 tyX10_ok wk_L_10 wt_X10 wi_X10 (fun j hj => by
    have hj : j < 6 := hj
    rcases (by omega : j = 0 ∨ j = 1 ∨ j = 2 ∨ j = 3 ∨ j = 4 ∨ j = 5) with rfl | rfl | rfl | rfl | rfl | rfl <;> rfl) (Nat.le_of_ble_eq_true rfl) (Nat.le_of_ble_eq_true rfl) ?_
  refine ev_dup dL_law_11 rfl ?_
  refine ev_callI dL_law_12 (c_X10_init (eU_s _ _ _)) lk_L_193 ⟨Nat.le_of_ble_eq_true rfl, Nat.le_of_ble_eq_true rfl⟩ rfl (Nat.le_of_ble_eq_true rfl) ⟨Nat.le_of_ble_eq_true rfl, Nat.le_of_ble_eq_true rfl⟩ (fun g2 hg2 => ?_)
  obtain ⟨hO2, fr2⟩ := hg2
  have hO1 := hO.fr (g := g2) (fun q h1 h2 => (fr2 q (by omega)).trans (eU_n _ _ (by omega)))
  refine ev_astore_n (i := 2) dL_law_15 rfl (Nat.le_of_ble_eq_true rfl) ?_
  have hV : gU regNew 0 (fun _ => regNew) (fun _ => 0) (fun _ => regNew) 0 := ⟨⟨eIv_new, sGd_new, sKp_new⟩, fun j hj => absurd hj (Nat.not_lt_zero j), fun i _ hu => absurd rfl hu⟩
  obtain ⟨X, hX, hdX⟩ := c_L_draw (a := a) (L := L) (xs := xs) (k := 0) hL (by omega)
  refine eV.sub1 (lv' := [(0, .ref a), (1, .ref b), (2, .ref (b + 317))]) ?_ ⟨(by repeat (first | with_reducible exact lk_h | ((with_reducible refine lk_e ?_); rfl) | refine lk_m ?_ rfl)), (by repeat (first | with_reducible exact lk_h | ((with_reducible refine lk_e ?_); rfl) | refine lk_m ?_ rfl)), (by repeat (first | with_reducible exact lk_h | ((with_reducible refine lk_e ?_); rfl) | refine lk_m ?_ rfl)), trivial⟩ (eff_id rfl)
  exact law_16 h1 h2 h3 hL hX hdX hO1 hO2 hV
