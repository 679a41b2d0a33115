/-! FOLLOWS: what would be is so when it is done -/
theorem lN_neg {k : Nat} (hk : k < 2 ^ 63) : ¬ lN k = -1 := by
  intro e
  have h2 := congrArg Int64.toInt e
  rw [pk_lT hk] at h2
  have h3 : (-1 : Int64).toInt = -1 := by decide
  omega
theorem a_bestNameS {h : eH} {n b ℓ c T : Nat} {σ : St} {x : Nat → Nat} {τ τs : Nat → St} {us : Nat → Nat} (hO : eNB h b σ x ℓ c τ us τs) (hI : gI σ T) (hT : T < 2 ^ 20) {g p m k : Nat} (hg : g < σ 0 0) (hp : p < σ 0 0) (hm : 1 ≤ m ∧ m ≤ 2) (hv : sBest σ g p m = some k) : kL_bestName [.ref b, .int (nI g), .int (nI p), .int (nI m)] h n (.inl (some (.long (lN k))), (fun g => eNB g b σ x ℓ c τ us τs ∧ eFr h g b (b + 317)), some n) 0 0 := by
  have q := a_bestName (n := n) hO hI hT hg hp hm
  rw [hv] at q
  exact q
theorem a_bestNameN {h : eH} {n b ℓ c T : Nat} {σ : St} {x : Nat → Nat} {τ τs : Nat → St} {us : Nat → Nat} (hO : eNB h b σ x ℓ c τ us τs) (hI : gI σ T) (hT : T < 2 ^ 20) {g p m : Nat} (hg : g < σ 0 0) (hp : p < σ 0 0) (hm : 1 ≤ m ∧ m ≤ 2) (hv : sBest σ g p m = none) : kL_bestName [.ref b, .int (nI g), .int (nI p), .int (nI m)] h n (.inl (some (.long (-1))), (fun g => eNB g b σ x ℓ c τ us τs ∧ eFr h g b (b + 317)), some n) 0 0 := by
  have q := a_bestName (n := n) hO hI hT hg hp hm
  rw [hv] at q
  exact q
theorem a_giveS {h : eH} {n b ℓ c T : Nat} {σ : St} {x : Nat → Nat} {τ τs : Nat → St} {us : Nat → Nat} (hO : eNB h b σ x ℓ c τ us τs) (hI : gI σ T) (hT : T < 2 ^ 20) {g p m k v : Nat} (hg : g < σ 0 0) (hp : p < σ 0 0) (hmc : sCode m k = true) (hv : sWhy σ g p m k = v) : kL_give [.ref b, .int (nI g), .int (nI p), .int (nI m), .int (nI k)] h n (.inl (some (.long (lN v))), (fun g' => eNB g' b (sGiveT σ g p m k) x ℓ (sRemC c) (sRem c τ σ) us τs ∧ eFr h g' b (b + 317)), some n) 0 0 :=
  hv ▸ a_give hO hI hT hg hp hmc
set_option maxHeartbeats 4000000 in
set_option maxRecDepth 20000 in
theorem fol_477 {h : eH} {b ℓ X T : Nat} {σ : St} {x : Nat → Nat} {τs : Nat → St} {us : Nat → Nat} (hI : gI σ T) (hT2 : T + 2 < 2 ^ 20) (hX : X < 2 ^ 31) (hu : us 1 ≠ 0) (hs : τs 1 = σ) : ∀ (g : eH) (n_0 c : Nat) (τ : Nat → St), eNB g b σ x ℓ c τ us τs → eFr h g b (b + 317) → eV mL_follows 477 [(0, .ref b), (1, .int (nI X)), (2, .long (sNow σ)), (4, .int (nI 1))] [] (g, n_0, 0, 0) (.inl (some (.int (nI 1))), (fun g => (∃ τ', eNB g b σ x ℓ 0 τ' us τs) ∧ eFr h g b (b + 317)), none) 1 6 := by
  have hT : T < 2 ^ 20 := by omega
  have hK := hI.ok hT
  have hB := hK.1
  have hP := hK.2.1
  have hN := hK.2.2.1
  intro g n_0 c τ hO FR
  refine ev_iload (i := 4) dL_follows_477 (by repeat (first | with_reducible exact lk_h | ((with_reducible refine lk_e ?_); rfl) | refine lk_m ?_ rfl)) ?_
  refine ev_if_eqN (tgt := 525) dL_follows_479 (by decide) (by decide) (fun c => absurd c (by decide)) (fun _ => ?_)
  refine ev_aload_n (i := 0) dL_follows_482 rfl (by repeat (first | with_reducible exact lk_h | ((with_reducible refine lk_e ?_); rfl) | refine lk_m ?_ rfl)) ?_
  refine ev_roN dL_follows_483 (c_L_now hO hI hT) lk_L_110 ⟨Nat.le_of_ble_eq_true rfl, Nat.le_of_ble_eq_true rfl⟩ rfl (Nat.le_of_ble_eq_true rfl) ⟨by first | exact Nat.le_of_ble_eq_true rfl | omega, by first | exact Nat.le_of_ble_eq_true rfl | omega⟩ (fun n_483 => ?_)
  refine ev_lload_n (i := 2) dL_follows_486 rfl (by repeat (first | with_reducible exact lk_h | ((with_reducible refine lk_e ?_); rfl) | refine lk_m ?_ rfl)) ?_
  refine ev_lcS_ne (tgt := 525) dL_follows_487 dL_follows_488 (by decide) (by rfl) ?_
  refine ev_aload_n (i := 0) dL_follows_491 rfl (by repeat (first | with_reducible exact lk_h | ((with_reducible refine lk_e ?_); rfl) | refine lk_m ?_ rfl)) ?_
  refine ev_iconst (v := nI 1) dL_follows_492 rfl ?_
  refine ev_stW dL_follows_493 (a_restore (s := 1) hO (by decide) hu (by rw [hs]; exact hN)) lk_L_151 ⟨Nat.le_of_ble_eq_true rfl, Nat.le_of_ble_eq_true rfl⟩ rfl (Nat.le_of_ble_eq_true rfl) ⟨by first | exact Nat.le_of_ble_eq_true rfl | omega, by first | exact Nat.le_of_ble_eq_true rfl | omega⟩ (fun n_493 g_493 hg_493 => ?_)
  obtain ⟨hO, fr_493⟩ := hg_493
  replace FR := FR.trans fr_493
  rw [hs]
  rw [hs] at hO
  refine ev_lconst (v := lN 0) dL_follows_496 rfl ?_
  refine ev_lcN_lt (tgt := 525) dL_follows_497 dL_follows_498 (by decide) (by first | omega | exact Nat.lt_trans (hB _ _) (by decide) | exact hB _ _) (by first | omega | exact Nat.lt_trans (hB _ _) (by decide) | exact hB _ _) (fun c_497 => absurd c_497 (by omega)) (fun c_497 => ?_)
  refine ev_aload_n (i := 0) dL_follows_501 rfl (by repeat (first | with_reducible exact lk_h | ((with_reducible refine lk_e ?_); rfl) | refine lk_m ?_ rfl)) ?_
  refine ev_roN dL_follows_502 (c_L_now hO hI hT) lk_L_110 ⟨Nat.le_of_ble_eq_true rfl, Nat.le_of_ble_eq_true rfl⟩ rfl (Nat.le_of_ble_eq_true rfl) ⟨by first | exact Nat.le_of_ble_eq_true rfl | omega, by first | exact Nat.le_of_ble_eq_true rfl | omega⟩ (fun n_502 => ?_)
  refine ev_lload_n (i := 2) dL_follows_505 rfl (by repeat (first | with_reducible exact lk_h | ((with_reducible refine lk_e ?_); rfl) | refine lk_m ?_ rfl)) ?_
  refine ev_lcS_ne (tgt := 525) dL_follows_506 dL_follows_507 (by decide) (by rfl) ?_
  refine ev_aload_n (i := 0) dL_follows_510 rfl (by repeat (first | with_reducible exact lk_h | ((with_reducible refine lk_e ?_); rfl) | refine lk_m ?_ rfl)) ?_
  refine ev_rxW dL_follows_511 (w_undo_1 hO.1 (c_X10_undo_1 hO)) lk_L_177 ⟨Nat.le_of_ble_eq_true rfl, Nat.le_of_ble_eq_true rfl⟩ rfl (Nat.le_of_ble_eq_true rfl) ⟨by first | exact Nat.le_of_ble_eq_true rfl | omega, by first | exact Nat.le_of_ble_eq_true rfl | omega⟩ (fun n_511 => ?_)
  refine ev_ldc2 dL_follows_514 wq_L_21 ?_
  refine ev_lcS_ne (tgt := 525) dL_follows_517 dL_follows_518 (by decide) (by rfl) ?_
  refine ev_iconst (v := nI 1) dL_follows_521 rfl ?_
  refine ev_goto (tgt := 526) dL_follows_522 (by decide) ?_
  exact ev_iret dL_follows_526 rfl (by first | rfl | exact bI_n _) (by rfl) (by exact ⟨⟨_, hO⟩, FR⟩) (fun _ e => nomatch e) (by first | exact Nat.le_of_ble_eq_true rfl | omega) (by first | exact Nat.le_of_ble_eq_true rfl | omega)
def bk (c : Nat) : Nat := if c < 14 then c else 13
theorem bk_lt (c : Nat) : bk c < 14 := by unfold bk; split <;> omega
theorem a_bk {h : eH} {n b ℓ c : Nat} {σ σ' : St} {x : Nat → Nat} {τ τs : Nat → St} {us : Nat → Nat} (hc : c ≤ 14) (hO : eNB h b σ' x ℓ (sRemC c) (sRem c τ σ) us τs) : kL_undo [.ref b] h n (.inl (some (.long (lN (bk c)))), (fun g => eNB g b σ x ℓ (bk c) (sRem c τ σ) us τs ∧ eFr h g b (b + 317)), some n) 0 0 := by
  have e1 : sRemC c = bk c + 1 := by unfold sRemC bk; split <;> omega
  have e2 : sRem c τ σ (bk c) = σ := by
    unfold sRem bk
    by_cases z : c < 14
    · rw [if_pos z, if_pos z]; exact if_pos rfl
    · rw [if_neg z, if_neg z]; exact if_pos rfl
  have q := a_undo (n := n) hO e1 (bk_lt c)
  rw [e2] at q
  exact q
set_option maxHeartbeats 4000000 in
set_option maxRecDepth 20000 in
theorem fol_342 {h : eH} {b ℓ X T : Nat} {σ : St} {x : Nat → Nat} {τs : Nat → St} {us : Nat → Nat} (hI : gI σ T) (hT2 : T + 2 < 2 ^ 20) (hX : X < 2 ^ 31) (hu : us 1 ≠ 0) (hs : τs 1 = σ) : ∀ (g : eH) (n_0 c : Nat) (τ : Nat → St), eNB g b σ x ℓ c τ us τs → eFr h g b (b + 317) → eV mL_follows 342 [(0, .ref b), (1, .int (nI X)), (2, .long (sNow σ)), (4, .int (nI 1))] [] (g, n_0, 0, 0) (.inl (some (.int (nI 1))), (fun g => (∃ τ', eNB g b σ x ℓ 0 τ' us τs) ∧ eFr h g b (b + 317)), none) 1 6 := by
  have hT : T < 2 ^ 20 := by omega
  have hK := hI.ok hT
  have hB := hK.1
  have hP := hK.2.1
  have hN := hK.2.2.1
  intro g n_0 c τ hO FR
  refine ev_aload_n (i := 0) dL_follows_342 rfl (by repeat (first | with_reducible exact lk_h | ((with_reducible refine lk_e ?_); rfl) | refine lk_m ?_ rfl)) ?_
  refine ev_iconst (v := nI 1) dL_follows_343 rfl ?_
  refine ev_roW dL_follows_344 (a_about (w := 1) (v := σ 0 1) hO hI hT (by decide) rfl) lk_L_100 ⟨Nat.le_of_ble_eq_true rfl, Nat.le_of_ble_eq_true rfl⟩ rfl (Nat.le_of_ble_eq_true rfl) ⟨by first | exact Nat.le_of_ble_eq_true rfl | omega, by first | exact Nat.le_of_ble_eq_true rfl | omega⟩ (fun n_344 => ?_)
  refine ev_lconst (v := lN 0) dL_follows_347 rfl ?_
  refine ev_lcN_le (tgt := 477) dL_follows_348 dL_follows_349 (by decide) (by first | omega | exact Nat.lt_trans (hB _ _) (by decide) | exact hB _ _) (by first | omega | exact Nat.lt_trans (hB _ _) (by decide) | exact hB _ _) (fun c_348 => ?_) (fun c_348 => ?_)
  · exact (fol_477 hI hT2 hX hu hs _ _ _ _ hO FR).sub1 ⟨(by repeat (first | with_reducible exact lk_h | ((with_reducible refine lk_e ?_); rfl) | refine lk_m ?_ rfl)), (by repeat (first | with_reducible exact lk_h | ((with_reducible refine lk_e ?_); rfl) | refine lk_m ?_ rfl)), (by repeat (first | with_reducible exact lk_h | ((with_reducible refine lk_e ?_); rfl) | refine lk_m ?_ rfl)), (by repeat (first | with_reducible exact lk_h | ((with_reducible refine lk_e ?_); rfl) | refine lk_m ?_ rfl)), trivial⟩ (eff_id rfl)
  · refine ev_aload_n (i := 0) dL_follows_352 rfl (by repeat (first | with_reducible exact lk_h | ((with_reducible refine lk_e ?_); rfl) | refine lk_m ?_ rfl)) ?_
    refine ev_bipush (v := nI 7) dL_follows_353 rfl ?_
    refine ev_roW dL_follows_355 (a_about (w := 7) (v := σ 0 2) hO hI hT (by decide) rfl) lk_L_100 ⟨Nat.le_of_ble_eq_true rfl, Nat.le_of_ble_eq_true rfl⟩ rfl (Nat.le_of_ble_eq_true rfl) ⟨by first | exact Nat.le_of_ble_eq_true rfl | omega, by first | exact Nat.le_of_ble_eq_true rfl | omega⟩ (fun n_355 => ?_)
    refine ev_ldc2 (v := lN 900) dL_follows_358 wq_L_175 ?_
    refine ev_lcN_ge (tgt := 477) dL_follows_361 dL_follows_362 (by decide) (by first | omega | exact Nat.lt_trans (hB _ _) (by decide) | exact hB _ _) (by first | omega | exact Nat.lt_trans (hB _ _) (by decide) | exact hB _ _) (fun c_361 => ?_) (fun c_361 => ?_)
    · exact (fol_477 hI hT2 hX hu hs _ _ _ _ hO FR).sub1 ⟨(by repeat (first | with_reducible exact lk_h | ((with_reducible refine lk_e ?_); rfl) | refine lk_m ?_ rfl)), (by repeat (first | with_reducible exact lk_h | ((with_reducible refine lk_e ?_); rfl) | refine lk_m ?_ rfl)), (by repeat (first | with_reducible exact lk_h | ((with_reducible refine lk_e ?_); rfl) | refine lk_m ?_ rfl)), (by repeat (first | with_reducible exact lk_h | ((with_reducible refine lk_e ?_); rfl) | refine lk_m ?_ rfl)), trivial⟩ (eff_id rfl)
    · refine ev_iload (i := 4) dL_follows_365 (by repeat (first | with_reducible exact lk_h | ((with_reducible refine lk_e ?_); rfl) | refine lk_m ?_ rfl)) ?_
      refine ev_if_eqN (tgt := 477) dL_follows_367 (by decide) (by decide) (fun c => absurd c (by decide)) (fun _ => ?_)
      have hn : X % σ 0 1 < σ 0 1 := Nat.mod_lt _ (by omega)
      refine ev_iload_n (i := 1) dL_follows_370 rfl (by repeat (first | with_reducible exact lk_h | ((with_reducible refine lk_e ?_); rfl) | refine lk_m ?_ rfl)) ?_
      refine ev_aload_n (i := 0) dL_follows_371 rfl (by repeat (first | with_reducible exact lk_h | ((with_reducible refine lk_e ?_); rfl) | refine lk_m ?_ rfl)) ?_
      refine ev_iconst (v := nI 1) dL_follows_372 rfl ?_
      refine ev_roW dL_follows_373 (a_about (w := 1) (v := σ 0 1) hO hI hT (by decide) rfl) lk_L_100 ⟨Nat.le_of_ble_eq_true rfl, Nat.le_of_ble_eq_true rfl⟩ rfl (Nat.le_of_ble_eq_true rfl) ⟨by first | exact Nat.le_of_ble_eq_true rfl | omega, by first | exact Nat.le_of_ble_eq_true rfl | omega⟩ (fun n_373 => ?_)
      refine ev_l2i dL_follows_376 (lN_i _) ?_
      refine ev_iremN dL_follows_377 (by first | omega | exact Nat.lt_trans (hB _ _) (by decide) | exact hB _ _) (by first | assumption | omega) (by first | omega | exact Nat.lt_trans (hB _ _) (by decide) | exact hB _ _) ?_
      refine ev_istore (i := 5) dL_follows_378 (Nat.le_of_ble_eq_true rfl) ?_
      refine ev_aload_n (i := 0) dL_follows_380 rfl (by repeat (first | with_reducible exact lk_h | ((with_reducible refine lk_e ?_); rfl) | refine lk_m ?_ rfl)) ?_
      refine ev_iload (i := 5) dL_follows_381 (by repeat (first | with_reducible exact lk_h | ((with_reducible refine lk_e ?_); rfl) | refine lk_m ?_ rfl)) ?_
      refine ev_roW dL_follows_383 (a_endsIn hO hI hT hn) lk_L_136 ⟨Nat.le_of_ble_eq_true rfl, Nat.le_of_ble_eq_true rfl⟩ rfl (Nat.le_of_ble_eq_true rfl) ⟨by first | exact Nat.le_of_ble_eq_true rfl | omega, by first | exact Nat.le_of_ble_eq_true rfl | omega⟩ (fun n_383 => ?_)
      refine ev_l2i dL_follows_386 (lN_i _) ?_
      refine ev_istore (i := 6) dL_follows_387 (Nat.le_of_ble_eq_true rfl) ?_
      refine ev_iload (i := 6) dL_follows_389 (by repeat (first | with_reducible exact lk_h | ((with_reducible refine lk_e ?_); rfl) | refine lk_m ?_ rfl)) ?_
      refine ev_if_leN (tgt := 477) dL_follows_391 (by decide) (by have := sLeft_b hI hn; omega) (fun c_391 => ?_) (fun c_391 => ?_)
      · exact (fol_477 hI hT2 hX hu hs _ _ _ _ hO FR).sub1 ⟨(by repeat (first | with_reducible exact lk_h | ((with_reducible refine lk_e ?_); rfl) | refine lk_m ?_ rfl)), (by repeat (first | with_reducible exact lk_h | ((with_reducible refine lk_e ?_); rfl) | refine lk_m ?_ rfl)), (by repeat (first | with_reducible exact lk_h | ((with_reducible refine lk_e ?_); rfl) | refine lk_m ?_ rfl)), (by repeat (first | with_reducible exact lk_h | ((with_reducible refine lk_e ?_); rfl) | refine lk_m ?_ rfl)), trivial⟩ (eff_id rfl)
      · have hL9 := sLeft_b hI hn
        have ha : sAlive σ (X % σ 0 1) = true := by
          cases q : sAlive σ (X % σ 0 1) with
          | true => rfl
          | false => exact absurd (sLeft_0.mpr q) c_391
        have hly := (hI.1.2.2.2.1 (X % σ 0 1)).2.2.2.2.2.1
        have hw := hI.1.ho _ hn
        obtain ⟨q1, q2, q3⟩ := sYears_last hn hw ha rfl hly
        have hst := sYears_still hn hw ha rfl hly
        have hal : σ 12 (X % σ 0 1) ≤ 1 := of_decide_eq_true ha
        have hI2 : ∀ y, gI (sPass σ y) T := fun y => ⟨hI.1.pass, hI.2.1.pass hI.1, hI.2.2.pass hI.1⟩
        have hp : ∀ y, 1 ≤ y → y ≤ 9 → sPass σ y = sYears σ y := fun y h1 h2 => (sPass_y (decide_eq_true ⟨h1, h2, by omega⟩)).1
        have hB2 : ∀ y f i, sPass σ y f i < 2 ^ 31 := fun y => ((hI2 y).ok hT).1
        have hYN : sYearsN σ (sLeft σ (X % σ 0 1)) ≤ 40 * sLeft σ (X % σ 0 1) := sYearsN_lt hI.1 (by omega)
        refine ev_aload_n (i := 0) dL_follows_394 rfl (by repeat (first | with_reducible exact lk_h | ((with_reducible refine lk_e ?_); rfl) | refine lk_m ?_ rfl)) ?_
        refine ev_iload (i := 6) dL_follows_395 (by repeat (first | with_reducible exact lk_h | ((with_reducible refine lk_e ?_); rfl) | refine lk_m ?_ rfl)) ?_
        refine ev_stW dL_follows_397 (a_years hO hI hT (by omega) (by omega)) lk_L_130 ⟨Nat.le_of_ble_eq_true rfl, Nat.le_of_ble_eq_true rfl⟩ rfl (Nat.le_of_ble_eq_true rfl) ⟨by first | exact Nat.le_of_ble_eq_true rfl | omega, by first | exact Nat.le_of_ble_eq_true rfl | omega⟩ (fun n_397 g_397 hg_397 => ?_)
        have hc_397 := hO.c14
        replace hO := hg_397.1
        replace FR := FR.trans hg_397.2
        refine ev_lconst (v := lN 0) dL_follows_400 rfl ?_
        refine ev_lcN_le (tgt := 474) dL_follows_401 dL_follows_402 (by decide) (by first | omega | exact Nat.lt_trans (hB _ _) (by decide) | exact hB _ _) (by first | omega | exact Nat.lt_trans (hB _ _) (by decide) | exact hB _ _) (fun c_401 => absurd c_401 (by omega)) (fun c_401 => ?_)
        refine ev_aload_n (i := 0) dL_follows_405 rfl (by repeat (first | with_reducible exact lk_h | ((with_reducible refine lk_e ?_); rfl) | refine lk_m ?_ rfl)) ?_
        refine ev_iload (i := 5) dL_follows_406 (by repeat (first | with_reducible exact lk_h | ((with_reducible refine lk_e ?_); rfl) | refine lk_m ?_ rfl)) ?_
        refine ev_bipush (v := nI 6) dL_follows_408 rfl ?_
        refine ev_roW dL_follows_410 (a_nameOf (p := X % σ 0 1) (w := 6) (v := sPass σ (sLeft σ (X % σ 0 1)) 12 (X % σ 0 1)) hO (hI2 _) hT (by rw [hp _ (by omega) (by omega)]; exact q3) (by decide) rfl) lk_L_108 ⟨Nat.le_of_ble_eq_true rfl, Nat.le_of_ble_eq_true rfl⟩ rfl (Nat.le_of_ble_eq_true rfl) ⟨by first | exact Nat.le_of_ble_eq_true rfl | omega, by first | exact Nat.le_of_ble_eq_true rfl | omega⟩ (fun n_410 => ?_)
        refine ev_lconst (v := lN 1) dL_follows_413 rfl ?_
        refine ev_lcN_le (tgt := 474) dL_follows_414 dL_follows_415 (by decide) (by first | omega | exact Nat.lt_trans (hB2 _ _ _) (by decide)) (by first | omega | exact Nat.lt_trans (hB2 _ _ _) (by decide)) (fun c_414 => absurd c_414 (by rw [hp _ (by omega) (by omega)] at c_414; omega)) (fun c_414 => ?_)
        refine ev_aload_n (i := 0) dL_follows_418 rfl (by repeat (first | with_reducible exact lk_h | ((with_reducible refine lk_e ?_); rfl) | refine lk_m ?_ rfl)) ?_
        refine ev_stW dL_follows_419 (a_bk hc_397 hO) lk_L_177 ⟨Nat.le_of_ble_eq_true rfl, Nat.le_of_ble_eq_true rfl⟩ rfl (Nat.le_of_ble_eq_true rfl) ⟨by first | exact Nat.le_of_ble_eq_true rfl | omega, by first | exact Nat.le_of_ble_eq_true rfl | omega⟩ (fun n_419 g_419 hg_419 => ?_)
        obtain ⟨hO, fr_419⟩ := hg_419
        replace FR := FR.trans fr_419
        have hb_419 := bk_lt c
        refine ev_lconst (v := lN 0) dL_follows_422 rfl ?_
        refine ev_lcN_lt (tgt := 474) dL_follows_423 dL_follows_424 (by decide) (by first | omega | exact Nat.lt_trans (hB _ _) (by decide) | exact hB _ _) (by first | omega | exact Nat.lt_trans (hB _ _) (by decide) | exact hB _ _) (fun c_423 => absurd c_423 (by omega)) (fun c_423 => ?_)
        refine ev_iload (i := 6) dL_follows_427 (by repeat (first | with_reducible exact lk_h | ((with_reducible refine lk_e ?_); rfl) | refine lk_m ?_ rfl)) ?_
        refine ev_iconst (v := nI 1) dL_follows_429 rfl ?_
        refine ev_icmp_eqN (tgt := 470) dL_follows_430 (by decide) (by first | omega | exact Nat.lt_trans (hB _ _) (by decide) | exact hB _ _) (by first | omega | exact Nat.lt_trans (hB _ _) (by decide) | exact hB _ _) (fun c_430 => ?_) (fun c_430 => ?_)
        · refine ev_iconst (v := nI 1) dL_follows_470 rfl ?_
          refine ev_goto (tgt := 475) dL_follows_471 (by decide) ?_
          refine ev_istore (i := 4) dL_follows_475 (Nat.le_of_ble_eq_true rfl) ?_
          exact (fol_477 hI hT2 hX hu hs _ _ _ _ hO FR).sub1 ⟨(by repeat (first | with_reducible exact lk_h | ((with_reducible refine lk_e ?_); rfl) | refine lk_m ?_ rfl)), (by repeat (first | with_reducible exact lk_h | ((with_reducible refine lk_e ?_); rfl) | refine lk_m ?_ rfl)), (by repeat (first | with_reducible exact lk_h | ((with_reducible refine lk_e ?_); rfl) | refine lk_m ?_ rfl)), (by repeat (first | with_reducible exact lk_h | ((with_reducible refine lk_e ?_); rfl) | refine lk_m ?_ rfl)), trivial⟩ (eff_id rfl)
        · refine ev_aload_n (i := 0) dL_follows_433 rfl (by repeat (first | with_reducible exact lk_h | ((with_reducible refine lk_e ?_); rfl) | refine lk_m ?_ rfl)) ?_
          refine ev_iload (i := 6) dL_follows_434 (by repeat (first | with_reducible exact lk_h | ((with_reducible refine lk_e ?_); rfl) | refine lk_m ?_ rfl)) ?_
          refine ev_iconst (v := nI 1) dL_follows_436 rfl ?_
          refine ev_isubN dL_follows_437 (by first | assumption | omega) ?_
          refine ev_stW dL_follows_438 (a_years (y := sLeft σ (X % σ 0 1) - 1) hO hI hT (by omega) (by omega)) lk_L_130 ⟨Nat.le_of_ble_eq_true rfl, Nat.le_of_ble_eq_true rfl⟩ rfl (Nat.le_of_ble_eq_true rfl) ⟨by first | exact Nat.le_of_ble_eq_true rfl | omega, by first | exact Nat.le_of_ble_eq_true rfl | omega⟩ (fun n_438 g_438 hg_438 => ?_)
          have hc_438 := hO.c14
          replace hO := hg_438.1
          replace FR := FR.trans hg_438.2
          have hst2 := hst (sLeft σ (X % σ 0 1) - 1) (by omega)
          have hYN2 : sYearsN σ (sLeft σ (X % σ 0 1) - 1) ≤ 40 * (sLeft σ (X % σ 0 1) - 1) := sYearsN_lt hI.1 (by omega)
          refine ev_lconst (v := lN 0) dL_follows_441 rfl ?_
          refine ev_lcN_lt (tgt := 474) dL_follows_442 dL_follows_443 (by decide) (by first | omega | exact Nat.lt_trans (hB _ _) (by decide) | exact hB _ _) (by first | omega | exact Nat.lt_trans (hB _ _) (by decide) | exact hB _ _) (fun c_442 => absurd c_442 (by omega)) (fun c_442 => ?_)
          refine ev_aload_n (i := 0) dL_follows_446 rfl (by repeat (first | with_reducible exact lk_h | ((with_reducible refine lk_e ?_); rfl) | refine lk_m ?_ rfl)) ?_
          refine ev_iload (i := 5) dL_follows_447 (by repeat (first | with_reducible exact lk_h | ((with_reducible refine lk_e ?_); rfl) | refine lk_m ?_ rfl)) ?_
          refine ev_bipush (v := nI 6) dL_follows_449 rfl ?_
          refine ev_roW dL_follows_451 (a_nameOf (p := X % σ 0 1) (w := 6) (v := sPass σ (sLeft σ (X % σ 0 1) - 1) 12 (X % σ 0 1)) hO (hI2 _) hT (by rw [hp _ (by omega) (by omega)]; exact hst2.2.2.2.2.2.2.2.1) (by decide) rfl) lk_L_108 ⟨Nat.le_of_ble_eq_true rfl, Nat.le_of_ble_eq_true rfl⟩ rfl (Nat.le_of_ble_eq_true rfl) ⟨by first | exact Nat.le_of_ble_eq_true rfl | omega, by first | exact Nat.le_of_ble_eq_true rfl | omega⟩ (fun n_451 => ?_)
          refine ev_ldc2 (v := lN 2) dL_follows_454 wq_L_155 ?_
          refine ev_lcN_ge (tgt := 474) dL_follows_457 dL_follows_458 (by decide) (by first | omega | exact Nat.lt_trans (hB2 _ _ _) (by decide)) (by first | omega | exact Nat.lt_trans (hB2 _ _ _) (by decide)) (fun c_457 => absurd c_457 (by rw [hp _ (by omega) (by omega), hst2.1] at c_457; omega)) (fun c_457 => ?_)
          refine ev_aload_n (i := 0) dL_follows_461 rfl (by repeat (first | with_reducible exact lk_h | ((with_reducible refine lk_e ?_); rfl) | refine lk_m ?_ rfl)) ?_
          refine ev_stW dL_follows_462 (a_bk hc_438 hO) lk_L_177 ⟨Nat.le_of_ble_eq_true rfl, Nat.le_of_ble_eq_true rfl⟩ rfl (Nat.le_of_ble_eq_true rfl) ⟨by first | exact Nat.le_of_ble_eq_true rfl | omega, by first | exact Nat.le_of_ble_eq_true rfl | omega⟩ (fun n_462 g_462 hg_462 => ?_)
          obtain ⟨hO, fr_462⟩ := hg_462
          replace FR := FR.trans fr_462
          have hb_462 := bk_lt (bk c)
          refine ev_lconst (v := lN 0) dL_follows_465 rfl ?_
          refine ev_lcN_lt (tgt := 474) dL_follows_466 dL_follows_467 (by decide) (by first | omega | exact Nat.lt_trans (hB _ _) (by decide) | exact hB _ _) (by first | omega | exact Nat.lt_trans (hB _ _) (by decide) | exact hB _ _) (fun c_466 => absurd c_466 (by omega)) (fun c_466 => ?_)
          refine ev_iconst (v := nI 1) dL_follows_470 rfl ?_
          refine ev_goto (tgt := 475) dL_follows_471 (by decide) ?_
          refine ev_istore (i := 4) dL_follows_475 (Nat.le_of_ble_eq_true rfl) ?_
          exact (fol_477 hI hT2 hX hu hs _ _ _ _ hO FR).sub1 ⟨(by repeat (first | with_reducible exact lk_h | ((with_reducible refine lk_e ?_); rfl) | refine lk_m ?_ rfl)), (by repeat (first | with_reducible exact lk_h | ((with_reducible refine lk_e ?_); rfl) | refine lk_m ?_ rfl)), (by repeat (first | with_reducible exact lk_h | ((with_reducible refine lk_e ?_); rfl) | refine lk_m ?_ rfl)), (by repeat (first | with_reducible exact lk_h | ((with_reducible refine lk_e ?_); rfl) | refine lk_m ?_ rfl)), trivial⟩ (eff_id rfl)
set_option maxHeartbeats 4000000 in
set_option maxRecDepth 20000 in
theorem fol_238 {h : eH} {b ℓ X T : Nat} {σ : St} {x : Nat → Nat} {τs : Nat → St} {us : Nat → Nat} (hI : gI σ T) (hT2 : T + 2 < 2 ^ 20) (hX : X < 2 ^ 31) (hu : us 1 ≠ 0) (hs : τs 1 = σ) : ∀ (g : eH) (n_0 c : Nat) (τ : Nat → St), eNB g b σ x ℓ c τ us τs → eFr h g b (b + 317) → eV mL_follows 238 [(0, .ref b), (1, .int (nI X)), (2, .long (sNow σ)), (4, .int (nI 1))] [] (g, n_0, 0, 0) (.inl (some (.int (nI 1))), (fun g => (∃ τ', eNB g b σ x ℓ 0 τ' us τs) ∧ eFr h g b (b + 317)), none) 1 6 := by
  have hT : T < 2 ^ 20 := by omega
  have hK := hI.ok hT
  have hB := hK.1
  have hP := hK.2.1
  have hN := hK.2.2.1
  intro g n_0 c τ hO FR
  refine ev_iload_n (i := 1) dL_follows_238 rfl (by repeat (first | with_reducible exact lk_h | ((with_reducible refine lk_e ?_); rfl) | refine lk_m ?_ rfl)) ?_
  refine ev_iconst (v := nI 5) dL_follows_239 rfl ?_
  refine ev_idivN dL_follows_240 (by first | omega | exact Nat.lt_trans (hB _ _) (by decide) | exact hB _ _) (by first | assumption | omega) (by first | omega | exact Nat.lt_trans (hB _ _) (by decide) | exact hB _ _) ?_
  refine ev_iconst (v := nI 4) dL_follows_241 rfl ?_
  refine ev_iremN dL_follows_242 (by first | omega | exact Nat.lt_trans (hB _ _) (by decide) | exact hB _ _) (by first | assumption | omega) (by first | omega | exact Nat.lt_trans (hB _ _) (by decide) | exact hB _ _) ?_
  refine ev_istore (i := 12) dL_follows_243 (Nat.le_of_ble_eq_true rfl) ?_
  refine ev_aload_n (i := 0) dL_follows_245 rfl (by repeat (first | with_reducible exact lk_h | ((with_reducible refine lk_e ?_); rfl) | refine lk_m ?_ rfl)) ?_
  refine ev_iload (i := 12) dL_follows_246 (by repeat (first | with_reducible exact lk_h | ((with_reducible refine lk_e ?_); rfl) | refine lk_m ?_ rfl)) ?_
  refine ev_iconst (v := nI 1) dL_follows_248 rfl ?_
  refine ev_iload_n (i := 1) dL_follows_249 rfl (by repeat (first | with_reducible exact lk_h | ((with_reducible refine lk_e ?_); rfl) | refine lk_m ?_ rfl)) ?_
  refine ev_bipush (v := nI 8) dL_follows_250 rfl ?_
  refine ev_iremN dL_follows_252 (by first | omega | exact Nat.lt_trans (hB _ _) (by decide) | exact hB _ _) (by first | assumption | omega) (by first | omega | exact Nat.lt_trans (hB _ _) (by decide) | exact hB _ _) ?_
  refine ev_iload_n (i := 1) dL_follows_253 rfl (by repeat (first | with_reducible exact lk_h | ((with_reducible refine lk_e ?_); rfl) | refine lk_m ?_ rfl)) ?_
  refine ev_iconst (v := nI 2) dL_follows_254 rfl ?_
  refine ev_iremN dL_follows_255 (by first | omega | exact Nat.lt_trans (hB _ _) (by decide) | exact hB _ _) (by first | assumption | omega) (by first | omega | exact Nat.lt_trans (hB _ _) (by decide) | exact hB _ _) ?_
  refine ev_roW dL_follows_256 (a_meant hO hI hT (by omega) (decide_eq_true ⟨by omega, by omega, by show _ < 26; omega⟩) (by omega)) lk_L_118 ⟨Nat.le_of_ble_eq_true rfl, Nat.le_of_ble_eq_true rfl⟩ rfl (Nat.le_of_ble_eq_true rfl) ⟨by first | exact Nat.le_of_ble_eq_true rfl | omega, by first | exact Nat.le_of_ble_eq_true rfl | omega⟩ (fun n_256 => ?_)
  refine ev_lstore (i := 13) dL_follows_259 (Nat.le_of_ble_eq_true rfl) ?_
  refine ev_aload_n (i := 0) dL_follows_261 rfl (by repeat (first | with_reducible exact lk_h | ((with_reducible refine lk_e ?_); rfl) | refine lk_m ?_ rfl)) ?_
  refine ev_bipush (v := nI 9) dL_follows_262 rfl ?_
  refine ev_roW dL_follows_264 (a_about (w := 9) (v := σ 0 3) hO hI hT (by decide) rfl) lk_L_100 ⟨Nat.le_of_ble_eq_true rfl, Nat.le_of_ble_eq_true rfl⟩ rfl (Nat.le_of_ble_eq_true rfl) ⟨by first | exact Nat.le_of_ble_eq_true rfl | omega, by first | exact Nat.le_of_ble_eq_true rfl | omega⟩ (fun n_264 => ?_)
  refine ev_lstore (i := 15) dL_follows_267 (Nat.le_of_ble_eq_true rfl) ?_
  refine ev_iload (i := 4) dL_follows_269 (by repeat (first | with_reducible exact lk_h | ((with_reducible refine lk_e ?_); rfl) | refine lk_m ?_ rfl)) ?_
  refine ev_if_eqN (tgt := 339) dL_follows_271 (by decide) (by decide) (fun c => absurd c (by decide)) (fun _ => ?_)
  refine ev_aload_n (i := 0) dL_follows_274 rfl (by repeat (first | with_reducible exact lk_h | ((with_reducible refine lk_e ?_); rfl) | refine lk_m ?_ rfl)) ?_
  refine ev_iload (i := 12) dL_follows_275 (by repeat (first | with_reducible exact lk_h | ((with_reducible refine lk_e ?_); rfl) | refine lk_m ?_ rfl)) ?_
  refine ev_iconst (v := nI 1) dL_follows_277 rfl ?_
  refine ev_iload_n (i := 1) dL_follows_278 rfl (by repeat (first | with_reducible exact lk_h | ((with_reducible refine lk_e ?_); rfl) | refine lk_m ?_ rfl)) ?_
  refine ev_bipush (v := nI 8) dL_follows_279 rfl ?_
  refine ev_iremN dL_follows_281 (by first | omega | exact Nat.lt_trans (hB _ _) (by decide) | exact hB _ _) (by first | assumption | omega) (by first | omega | exact Nat.lt_trans (hB _ _) (by decide) | exact hB _ _) ?_
  refine ev_stW dL_follows_282 (a_call hO hI hT (by omega) (decide_eq_true ⟨by omega, by omega, by show _ < 26; omega⟩)) lk_L_128 ⟨Nat.le_of_ble_eq_true rfl, Nat.le_of_ble_eq_true rfl⟩ rfl (Nat.le_of_ble_eq_true rfl) ⟨by first | exact Nat.le_of_ble_eq_true rfl | omega, by first | exact Nat.le_of_ble_eq_true rfl | omega⟩ (fun n_282 g_282 hg_282 => ?_)
  have hc_282 := hO.c14
  replace hO := hg_282.1
  replace FR := FR.trans hg_282.2
  have hI2 : gI (sCallT σ (X / 5 % 4) 1 (X % 8)) (T + 2) := ⟨hI.1.callT, hI.2.1.callT, hI.2.2.callT⟩
  have hmore := sCallT_more (σ := σ) (b := X / 5 % 4) (m := 1) (c := X % 8) (by omega) (decide_eq_true ⟨by omega, by omega, by show _ < 26; omega⟩)
  have hus := uses_b (n := sCallT σ (X / 5 % 4) 1 (X % 8) 0 1) hI2.1 (hI2.ok hT2).2.2.1
  have hb3 := (hI2.ok hT2).1 0 3
  have hb4 := (hI2.ok hT2).1 0 4
  refine ev_lload (i := 13) dL_follows_285 (by repeat (first | with_reducible exact lk_h | ((with_reducible refine lk_e ?_); rfl) | refine lk_m ?_ rfl)) ?_
  refine ev_lcS_ne (tgt := 339) dL_follows_287 dL_follows_288 (by decide) (by rfl) ?_
  refine ev_aload_n (i := 0) dL_follows_291 rfl (by repeat (first | with_reducible exact lk_h | ((with_reducible refine lk_e ?_); rfl) | refine lk_m ?_ rfl)) ?_
  refine ev_bipush (v := nI 9) dL_follows_292 rfl ?_
  refine ev_roW dL_follows_294 (a_about (w := 9) (v := sCallT σ (X / 5 % 4) 1 (X % 8) 0 3) hO hI2 hT2 (by decide) rfl) lk_L_100 ⟨Nat.le_of_ble_eq_true rfl, Nat.le_of_ble_eq_true rfl⟩ rfl (Nat.le_of_ble_eq_true rfl) ⟨by first | exact Nat.le_of_ble_eq_true rfl | omega, by first | exact Nat.le_of_ble_eq_true rfl | omega⟩ (fun n_294 => ?_)
  refine ev_aload_n (i := 0) dL_follows_297 rfl (by repeat (first | with_reducible exact lk_h | ((with_reducible refine lk_e ?_); rfl) | refine lk_m ?_ rfl)) ?_
  refine ev_bipush (v := nI 10) dL_follows_298 rfl ?_
  refine ev_roW dL_follows_300 (a_about (w := 10) (v := sCallT σ (X / 5 % 4) 1 (X % 8) 0 4) hO hI2 hT2 (by decide) rfl) lk_L_100 ⟨Nat.le_of_ble_eq_true rfl, Nat.le_of_ble_eq_true rfl⟩ rfl (Nat.le_of_ble_eq_true rfl) ⟨by first | exact Nat.le_of_ble_eq_true rfl | omega, by first | exact Nat.le_of_ble_eq_true rfl | omega⟩ (fun n_300 => ?_)
  refine ev_ladd dL_follows_303 ?_
  rw [lN_add]
  refine ev_aload_n (i := 0) dL_follows_304 rfl (by repeat (first | with_reducible exact lk_h | ((with_reducible refine lk_e ?_); rfl) | refine lk_m ?_ rfl)) ?_
  refine ev_bipush (v := nI 8) dL_follows_305 rfl ?_
  refine ev_roW dL_follows_307 (a_about (w := 8) (v := sSum (sCallT σ (X / 5 % 4) 1 (X % 8) 10) (sCallT σ (X / 5 % 4) 1 (X % 8) 0 1)) hO hI2 hT2 (by decide) rfl) lk_L_100 ⟨Nat.le_of_ble_eq_true rfl, Nat.le_of_ble_eq_true rfl⟩ rfl (Nat.le_of_ble_eq_true rfl) ⟨by first | exact Nat.le_of_ble_eq_true rfl | omega, by first | exact Nat.le_of_ble_eq_true rfl | omega⟩ (fun n_307 => ?_)
  refine ev_ladd dL_follows_310 ?_
  rw [lN_add]
  refine ev_lload (i := 15) dL_follows_311 (by repeat (first | with_reducible exact lk_h | ((with_reducible refine lk_e ?_); rfl) | refine lk_m ?_ rfl)) ?_
  refine ev_lcN_le (tgt := 339) dL_follows_313 dL_follows_314 (by decide) (by first | omega | exact Nat.lt_trans (hB _ _) (by decide) | exact hB _ _) (by first | omega | exact Nat.lt_trans (hB _ _) (by decide) | exact hB _ _) (fun c_313 => absurd c_313 (by omega)) (fun c_313 => ?_)
  refine ev_aload_n (i := 0) dL_follows_317 rfl (by repeat (first | with_reducible exact lk_h | ((with_reducible refine lk_e ?_); rfl) | refine lk_m ?_ rfl)) ?_
  refine ev_stW dL_follows_318 (a_bk hc_282 hO) lk_L_177 ⟨Nat.le_of_ble_eq_true rfl, Nat.le_of_ble_eq_true rfl⟩ rfl (Nat.le_of_ble_eq_true rfl) ⟨by first | exact Nat.le_of_ble_eq_true rfl | omega, by first | exact Nat.le_of_ble_eq_true rfl | omega⟩ (fun n_318 g_318 hg_318 => ?_)
  obtain ⟨hO, fr_318⟩ := hg_318
  replace FR := FR.trans fr_318
  have hb_318 := bk_lt c
  refine ev_lconst (v := lN 0) dL_follows_321 rfl ?_
  refine ev_lcN_lt (tgt := 339) dL_follows_322 dL_follows_323 (by decide) (by first | omega | exact Nat.lt_trans (hB _ _) (by decide) | exact hB _ _) (by first | omega | exact Nat.lt_trans (hB _ _) (by decide) | exact hB _ _) (fun c_322 => absurd c_322 (by omega)) (fun c_322 => ?_)
  refine ev_aload_n (i := 0) dL_follows_326 rfl (by repeat (first | with_reducible exact lk_h | ((with_reducible refine lk_e ?_); rfl) | refine lk_m ?_ rfl)) ?_
  refine ev_roN dL_follows_327 (c_L_now hO hI hT) lk_L_110 ⟨Nat.le_of_ble_eq_true rfl, Nat.le_of_ble_eq_true rfl⟩ rfl (Nat.le_of_ble_eq_true rfl) ⟨by first | exact Nat.le_of_ble_eq_true rfl | omega, by first | exact Nat.le_of_ble_eq_true rfl | omega⟩ (fun n_327 => ?_)
  refine ev_lload_n (i := 2) dL_follows_330 rfl (by repeat (first | with_reducible exact lk_h | ((with_reducible refine lk_e ?_); rfl) | refine lk_m ?_ rfl)) ?_
  refine ev_lcS_ne (tgt := 339) dL_follows_331 dL_follows_332 (by decide) (by rfl) ?_
  refine ev_iconst (v := nI 1) dL_follows_335 rfl ?_
  refine ev_goto (tgt := 340) dL_follows_336 (by decide) ?_
  refine ev_istore (i := 4) dL_follows_340 (Nat.le_of_ble_eq_true rfl) ?_
  exact (fol_342 hI hT2 hX hu hs _ _ _ _ hO FR).sub1 ⟨(by repeat (first | with_reducible exact lk_h | ((with_reducible refine lk_e ?_); rfl) | refine lk_m ?_ rfl)), (by repeat (first | with_reducible exact lk_h | ((with_reducible refine lk_e ?_); rfl) | refine lk_m ?_ rfl)), (by repeat (first | with_reducible exact lk_h | ((with_reducible refine lk_e ?_); rfl) | refine lk_m ?_ rfl)), (by repeat (first | with_reducible exact lk_h | ((with_reducible refine lk_e ?_); rfl) | refine lk_m ?_ rfl)), trivial⟩ (eff_id rfl)
set_option maxHeartbeats 4000000 in
set_option maxRecDepth 20000 in
theorem fol_83a {h : eH} {b ℓ X T : Nat} {σ : St} {x : Nat → Nat} {τs : Nat → St} {us : Nat → Nat} (hI : gI σ T) (hT2 : T + 2 < 2 ^ 20) (hX : X < 2 ^ 31) (hu : us 1 ≠ 0) (hs : τs 1 = σ) (h0 : 0 < σ 0 0) (hv : sBest σ (X % σ 0 0) (X / 12 % σ 0 0) (1 + X / 3 % 2) = none) : ∀ (g : eH) (n_0 c : Nat) (τ : Nat → St), eNB g b σ x ℓ c τ us τs → eFr h g b (b + 317) → eV mL_follows 83 [(0, .ref b), (1, .int (nI X)), (2, .long (sNow σ)), (4, .int (nI 1))] [] (g, n_0, 0, 0) (.inl (some (.int (nI 1))), (fun g => (∃ τ', eNB g b σ x ℓ 0 τ' us τs) ∧ eFr h g b (b + 317)), none) 1 6 := by
  have hT : T < 2 ^ 20 := by omega
  have hK := hI.ok hT
  have hB := hK.1
  have hP := hK.2.1
  have hN := hK.2.2.1
  intro g n_0 c τ hO FR
  have ha : X % σ 0 0 < σ 0 0 := Nat.mod_lt _ h0
  have hb : X / 12 % σ 0 0 < σ 0 0 := Nat.mod_lt _ h0
  have hwb := sWhy_b σ (X % σ 0 0) (X / 12 % σ 0 0) 1 (X % 26)
  have hno := sBest_no hv
  have hwb2 := sWhy_b σ (X % σ 0 0) (X / 12 % σ 0 0) (1 + X / 3 % 2) 0
  have hm0 : sCode (1 + X / 3 % 2) 0 = true := decide_eq_true ⟨by omega, by omega, Nat.pow_pos (by decide)⟩
  refine ev_iload_n (i := 1) dL_follows_83 rfl (by repeat (first | with_reducible exact lk_h | ((with_reducible refine lk_e ?_); rfl) | refine lk_m ?_ rfl)) ?_
  refine ev_aload_n (i := 0) dL_follows_84 rfl (by repeat (first | with_reducible exact lk_h | ((with_reducible refine lk_e ?_); rfl) | refine lk_m ?_ rfl)) ?_
  refine ev_iconst (v := nI 0) dL_follows_85 rfl ?_
  refine ev_roW dL_follows_86 (a_about (w := 0) (v := σ 0 0) hO hI hT (by decide) rfl) lk_L_100 ⟨Nat.le_of_ble_eq_true rfl, Nat.le_of_ble_eq_true rfl⟩ rfl (Nat.le_of_ble_eq_true rfl) ⟨by first | exact Nat.le_of_ble_eq_true rfl | omega, by first | exact Nat.le_of_ble_eq_true rfl | omega⟩ (fun n_86 => ?_)
  refine ev_l2i dL_follows_89 (lN_i _) ?_
  refine ev_iremN dL_follows_90 (by first | omega | exact Nat.lt_trans (hB _ _) (by decide) | exact hB _ _) (by first | assumption | omega) (by first | omega | exact Nat.lt_trans (hB _ _) (by decide) | exact hB _ _) ?_
  refine ev_istore (i := 5) dL_follows_91 (Nat.le_of_ble_eq_true rfl) ?_
  refine ev_iload_n (i := 1) dL_follows_93 rfl (by repeat (first | with_reducible exact lk_h | ((with_reducible refine lk_e ?_); rfl) | refine lk_m ?_ rfl)) ?_
  refine ev_bipush (v := nI 12) dL_follows_94 rfl ?_
  refine ev_idivN dL_follows_96 (by first | omega | exact Nat.lt_trans (hB _ _) (by decide) | exact hB _ _) (by first | assumption | omega) (by first | omega | exact Nat.lt_trans (hB _ _) (by decide) | exact hB _ _) ?_
  refine ev_aload_n (i := 0) dL_follows_97 rfl (by repeat (first | with_reducible exact lk_h | ((with_reducible refine lk_e ?_); rfl) | refine lk_m ?_ rfl)) ?_
  refine ev_iconst (v := nI 0) dL_follows_98 rfl ?_
  refine ev_roW dL_follows_99 (a_about (w := 0) (v := σ 0 0) hO hI hT (by decide) rfl) lk_L_100 ⟨Nat.le_of_ble_eq_true rfl, Nat.le_of_ble_eq_true rfl⟩ rfl (Nat.le_of_ble_eq_true rfl) ⟨by first | exact Nat.le_of_ble_eq_true rfl | omega, by first | exact Nat.le_of_ble_eq_true rfl | omega⟩ (fun n_99 => ?_)
  refine ev_l2i dL_follows_102 (lN_i _) ?_
  refine ev_iremN dL_follows_103 (by first | omega | exact Nat.lt_trans (hB _ _) (by decide) | exact hB _ _) (by first | assumption | omega) (by first | omega | exact Nat.lt_trans (hB _ _) (by decide) | exact hB _ _) ?_
  refine ev_istore (i := 6) dL_follows_104 (Nat.le_of_ble_eq_true rfl) ?_
  refine ev_iconst (v := nI 1) dL_follows_106 rfl ?_
  refine ev_iload_n (i := 1) dL_follows_107 rfl (by repeat (first | with_reducible exact lk_h | ((with_reducible refine lk_e ?_); rfl) | refine lk_m ?_ rfl)) ?_
  refine ev_iconst (v := nI 3) dL_follows_108 rfl ?_
  refine ev_idivN dL_follows_109 (by first | omega | exact Nat.lt_trans (hB _ _) (by decide) | exact hB _ _) (by first | assumption | omega) (by first | omega | exact Nat.lt_trans (hB _ _) (by decide) | exact hB _ _) ?_
  refine ev_iconst (v := nI 2) dL_follows_110 rfl ?_
  refine ev_iremN dL_follows_111 (by first | omega | exact Nat.lt_trans (hB _ _) (by decide) | exact hB _ _) (by first | assumption | omega) (by first | omega | exact Nat.lt_trans (hB _ _) (by decide) | exact hB _ _) ?_
  refine ev_iaddN dL_follows_112 ?_
  refine ev_istore (i := 7) dL_follows_113 (Nat.le_of_ble_eq_true rfl) ?_
  refine ev_aload_n (i := 0) dL_follows_115 rfl (by repeat (first | with_reducible exact lk_h | ((with_reducible refine lk_e ?_); rfl) | refine lk_m ?_ rfl)) ?_
  refine ev_iload (i := 5) dL_follows_116 (by repeat (first | with_reducible exact lk_h | ((with_reducible refine lk_e ?_); rfl) | refine lk_m ?_ rfl)) ?_
  refine ev_iload (i := 6) dL_follows_118 (by repeat (first | with_reducible exact lk_h | ((with_reducible refine lk_e ?_); rfl) | refine lk_m ?_ rfl)) ?_
  refine ev_iload (i := 7) dL_follows_120 (by repeat (first | with_reducible exact lk_h | ((with_reducible refine lk_e ?_); rfl) | refine lk_m ?_ rfl)) ?_
  refine ev_stW dL_follows_122 (a_bestNameN (g := (X % σ 0 0)) (p := (X / 12 % σ 0 0)) (m := (1 + X / 3 % 2)) hO hI hT ha hb (by omega) hv) lk_L_138 ⟨Nat.le_of_ble_eq_true rfl, Nat.le_of_ble_eq_true rfl⟩ rfl (Nat.le_of_ble_eq_true rfl) ⟨by first | exact Nat.le_of_ble_eq_true rfl | omega, by first | exact Nat.le_of_ble_eq_true rfl | omega⟩ (fun n_122 g_122 hg_122 => ?_)
  obtain ⟨hO, fr_122⟩ := hg_122
  replace FR := FR.trans fr_122
  refine ev_lstore (i := 8) dL_follows_125 (Nat.le_of_ble_eq_true rfl) ?_
  refine ev_aload_n (i := 0) dL_follows_127 rfl (by repeat (first | with_reducible exact lk_h | ((with_reducible refine lk_e ?_); rfl) | refine lk_m ?_ rfl)) ?_
  refine ev_iload (i := 5) dL_follows_128 (by repeat (first | with_reducible exact lk_h | ((with_reducible refine lk_e ?_); rfl) | refine lk_m ?_ rfl)) ?_
  refine ev_iload (i := 6) dL_follows_130 (by repeat (first | with_reducible exact lk_h | ((with_reducible refine lk_e ?_); rfl) | refine lk_m ?_ rfl)) ?_
  refine ev_iconst (v := nI 1) dL_follows_132 rfl ?_
  refine ev_iload_n (i := 1) dL_follows_133 rfl (by repeat (first | with_reducible exact lk_h | ((with_reducible refine lk_e ?_); rfl) | refine lk_m ?_ rfl)) ?_
  refine ev_bipush (v := nI 26) dL_follows_134 rfl ?_
  refine ev_iremN dL_follows_136 (by first | omega | exact Nat.lt_trans (hB _ _) (by decide) | exact hB _ _) (by first | assumption | omega) (by first | omega | exact Nat.lt_trans (hB _ _) (by decide) | exact hB _ _) ?_
  refine ev_roW dL_follows_137 (a_why hO hI hT ha hb (decide_eq_true ⟨by omega, by omega, by show _ < 26; omega⟩)) lk_L_134 ⟨Nat.le_of_ble_eq_true rfl, Nat.le_of_ble_eq_true rfl⟩ rfl (Nat.le_of_ble_eq_true rfl) ⟨by first | exact Nat.le_of_ble_eq_true rfl | omega, by first | exact Nat.le_of_ble_eq_true rfl | omega⟩ (fun n_137 => ?_)
  refine ev_lstore (i := 10) dL_follows_140 (Nat.le_of_ble_eq_true rfl) ?_
  refine ev_aload_n (i := 0) dL_follows_142 rfl (by repeat (first | with_reducible exact lk_h | ((with_reducible refine lk_e ?_); rfl) | refine lk_m ?_ rfl)) ?_
  refine ev_iload (i := 5) dL_follows_143 (by repeat (first | with_reducible exact lk_h | ((with_reducible refine lk_e ?_); rfl) | refine lk_m ?_ rfl)) ?_
  refine ev_iload (i := 6) dL_follows_145 (by repeat (first | with_reducible exact lk_h | ((with_reducible refine lk_e ?_); rfl) | refine lk_m ?_ rfl)) ?_
  refine ev_iconst (v := nI 1) dL_follows_147 rfl ?_
  refine ev_iload_n (i := 1) dL_follows_148 rfl (by repeat (first | with_reducible exact lk_h | ((with_reducible refine lk_e ?_); rfl) | refine lk_m ?_ rfl)) ?_
  refine ev_bipush (v := nI 26) dL_follows_149 rfl ?_
  refine ev_iremN dL_follows_151 (by first | omega | exact Nat.lt_trans (hB _ _) (by decide) | exact hB _ _) (by first | assumption | omega) (by first | omega | exact Nat.lt_trans (hB _ _) (by decide) | exact hB _ _) ?_
  refine ev_stW dL_follows_152 (a_give hO hI hT ha hb (decide_eq_true ⟨by omega, by omega, by show _ < 26; omega⟩)) lk_L_126 ⟨Nat.le_of_ble_eq_true rfl, Nat.le_of_ble_eq_true rfl⟩ rfl (Nat.le_of_ble_eq_true rfl) ⟨by first | exact Nat.le_of_ble_eq_true rfl | omega, by first | exact Nat.le_of_ble_eq_true rfl | omega⟩ (fun n_152 g_152 hg_152 => ?_)
  have hc_152 := hO.c14
  replace hO := hg_152.1
  replace FR := FR.trans hg_152.2
  refine ev_lload (i := 10) dL_follows_155 (by repeat (first | with_reducible exact lk_h | ((with_reducible refine lk_e ?_); rfl) | refine lk_m ?_ rfl)) ?_
  refine ev_lcS_ne (tgt := 235) dL_follows_157 dL_follows_158 (by decide) (by rfl) ?_
  refine ev_aload_n (i := 0) dL_follows_161 rfl (by repeat (first | with_reducible exact lk_h | ((with_reducible refine lk_e ?_); rfl) | refine lk_m ?_ rfl)) ?_
  refine ev_stW dL_follows_162 (a_bk hc_152 hO) lk_L_177 ⟨Nat.le_of_ble_eq_true rfl, Nat.le_of_ble_eq_true rfl⟩ rfl (Nat.le_of_ble_eq_true rfl) ⟨by first | exact Nat.le_of_ble_eq_true rfl | omega, by first | exact Nat.le_of_ble_eq_true rfl | omega⟩ (fun n_162 g_162 hg_162 => ?_)
  obtain ⟨hO, fr_162⟩ := hg_162
  replace FR := FR.trans fr_162
  have hb_162 := bk_lt c
  refine ev_lconst (v := lN 0) dL_follows_165 rfl ?_
  refine ev_lcN_lt (tgt := 235) dL_follows_166 dL_follows_167 (by decide) (by first | omega | exact Nat.lt_trans (hB _ _) (by decide) | exact hB _ _) (by first | omega | exact Nat.lt_trans (hB _ _) (by decide) | exact hB _ _) (fun c_166 => absurd c_166 (by omega)) (fun c_166 => ?_)
  refine ev_lload (i := 8) dL_follows_170 (by repeat (first | with_reducible exact lk_h | ((with_reducible refine lk_e ?_); rfl) | refine lk_m ?_ rfl)) ?_
  refine ev_ldc2 dL_follows_172 wq_L_159 ?_
  refine ev_lcS_ne (tgt := 195) dL_follows_175 dL_follows_176 (by decide) (by rfl) ?_
  refine ev_aload_n (i := 0) dL_follows_179 rfl (by repeat (first | with_reducible exact lk_h | ((with_reducible refine lk_e ?_); rfl) | refine lk_m ?_ rfl)) ?_
  refine ev_iload (i := 5) dL_follows_180 (by repeat (first | with_reducible exact lk_h | ((with_reducible refine lk_e ?_); rfl) | refine lk_m ?_ rfl)) ?_
  refine ev_iload (i := 6) dL_follows_182 (by repeat (first | with_reducible exact lk_h | ((with_reducible refine lk_e ?_); rfl) | refine lk_m ?_ rfl)) ?_
  refine ev_iload (i := 7) dL_follows_184 (by repeat (first | with_reducible exact lk_h | ((with_reducible refine lk_e ?_); rfl) | refine lk_m ?_ rfl)) ?_
  refine ev_iconst (v := nI 0) dL_follows_186 rfl ?_
  refine ev_roW dL_follows_187 (a_why (m := (1 + X / 3 % 2)) (k := 0) hO hI hT ha hb hm0) lk_L_134 ⟨Nat.le_of_ble_eq_true rfl, Nat.le_of_ble_eq_true rfl⟩ rfl (Nat.le_of_ble_eq_true rfl) ⟨by first | exact Nat.le_of_ble_eq_true rfl | omega, by first | exact Nat.le_of_ble_eq_true rfl | omega⟩ (fun n_187 => ?_)
  refine ev_lconst (v := lN 0) dL_follows_190 rfl ?_
  refine ev_lcN_le (tgt := 235) dL_follows_191 dL_follows_192 (by decide) (by first | omega | exact Nat.lt_trans (hB _ _) (by decide) | exact hB _ _) (by first | omega | exact Nat.lt_trans (hB _ _) (by decide) | exact hB _ _) (fun c_191 => absurd c_191 (by omega)) (fun c_191 => ?_)
  refine ev_lload (i := 8) dL_follows_195 (by repeat (first | with_reducible exact lk_h | ((with_reducible refine lk_e ?_); rfl) | refine lk_m ?_ rfl)) ?_
  refine ev_ldc2 dL_follows_197 wq_L_159 ?_
  refine ev_lc_eq (tgt := 231) dL_follows_200 dL_follows_201 (by decide) (fun _ => ?_) (fun q => absurd (by rfl) q)
  refine ev_iconst (v := nI 1) dL_follows_231 rfl ?_
  refine ev_goto (tgt := 236) dL_follows_232 (by decide) ?_
  refine ev_istore (i := 4) dL_follows_236 (Nat.le_of_ble_eq_true rfl) ?_
  exact (fol_238 hI hT2 hX hu hs _ _ _ _ hO FR).sub1 ⟨(by repeat (first | with_reducible exact lk_h | ((with_reducible refine lk_e ?_); rfl) | refine lk_m ?_ rfl)), (by repeat (first | with_reducible exact lk_h | ((with_reducible refine lk_e ?_); rfl) | refine lk_m ?_ rfl)), (by repeat (first | with_reducible exact lk_h | ((with_reducible refine lk_e ?_); rfl) | refine lk_m ?_ rfl)), (by repeat (first | with_reducible exact lk_h | ((with_reducible refine lk_e ?_); rfl) | refine lk_m ?_ rfl)), trivial⟩ (eff_id rfl)
set_option maxHeartbeats 4000000 in
set_option maxRecDepth 20000 in
theorem fol_83b {h : eH} {b ℓ X T : Nat} {σ : St} {x : Nat → Nat} {τs : Nat → St} {us : Nat → Nat} (hI : gI σ T) (hT2 : T + 2 < 2 ^ 20) (hX : X < 2 ^ 31) (hu : us 1 ≠ 0) (hs : τs 1 = σ) {k : Nat} (h0 : 0 < σ 0 0) (hv : sBest σ (X % σ 0 0) (X / 12 % σ 0 0) (1 + X / 3 % 2) = some k) : ∀ (g : eH) (n_0 c : Nat) (τ : Nat → St), eNB g b σ x ℓ c τ us τs → eFr h g b (b + 317) → eV mL_follows 83 [(0, .ref b), (1, .int (nI X)), (2, .long (sNow σ)), (4, .int (nI 1))] [] (g, n_0, 0, 0) (.inl (some (.int (nI 1))), (fun g => (∃ τ', eNB g b σ x ℓ 0 τ' us τs) ∧ eFr h g b (b + 317)), none) 1 6 := by
  have hT : T < 2 ^ 20 := by omega
  have hK := hI.ok hT
  have hB := hK.1
  have hP := hK.2.1
  have hN := hK.2.2.1
  intro g n_0 c τ hO FR
  have ha : X % σ 0 0 < σ 0 0 := Nat.mod_lt _ h0
  have hb : X / 12 % σ 0 0 < σ 0 0 := Nat.mod_lt _ h0
  have hwb := sWhy_b σ (X % σ 0 0) (X / 12 % σ 0 0) 1 (X % 26)
  obtain ⟨hw0, hk0⟩ := sBest_yes hv
  have hmk : sCode (1 + X / 3 % 2) k = true := decide_eq_true ⟨by omega, by omega, hk0⟩
  have hk1 := sBest_b (by omega) hv
  refine ev_iload_n (i := 1) dL_follows_83 rfl (by repeat (first | with_reducible exact lk_h | ((with_reducible refine lk_e ?_); rfl) | refine lk_m ?_ rfl)) ?_
  refine ev_aload_n (i := 0) dL_follows_84 rfl (by repeat (first | with_reducible exact lk_h | ((with_reducible refine lk_e ?_); rfl) | refine lk_m ?_ rfl)) ?_
  refine ev_iconst (v := nI 0) dL_follows_85 rfl ?_
  refine ev_roW dL_follows_86 (a_about (w := 0) (v := σ 0 0) hO hI hT (by decide) rfl) lk_L_100 ⟨Nat.le_of_ble_eq_true rfl, Nat.le_of_ble_eq_true rfl⟩ rfl (Nat.le_of_ble_eq_true rfl) ⟨by first | exact Nat.le_of_ble_eq_true rfl | omega, by first | exact Nat.le_of_ble_eq_true rfl | omega⟩ (fun n_86 => ?_)
  refine ev_l2i dL_follows_89 (lN_i _) ?_
  refine ev_iremN dL_follows_90 (by first | omega | exact Nat.lt_trans (hB _ _) (by decide) | exact hB _ _) (by first | assumption | omega) (by first | omega | exact Nat.lt_trans (hB _ _) (by decide) | exact hB _ _) ?_
  refine ev_istore (i := 5) dL_follows_91 (Nat.le_of_ble_eq_true rfl) ?_
  refine ev_iload_n (i := 1) dL_follows_93 rfl (by repeat (first | with_reducible exact lk_h | ((with_reducible refine lk_e ?_); rfl) | refine lk_m ?_ rfl)) ?_
  refine ev_bipush (v := nI 12) dL_follows_94 rfl ?_
  refine ev_idivN dL_follows_96 (by first | omega | exact Nat.lt_trans (hB _ _) (by decide) | exact hB _ _) (by first | assumption | omega) (by first | omega | exact Nat.lt_trans (hB _ _) (by decide) | exact hB _ _) ?_
  refine ev_aload_n (i := 0) dL_follows_97 rfl (by repeat (first | with_reducible exact lk_h | ((with_reducible refine lk_e ?_); rfl) | refine lk_m ?_ rfl)) ?_
  refine ev_iconst (v := nI 0) dL_follows_98 rfl ?_
  refine ev_roW dL_follows_99 (a_about (w := 0) (v := σ 0 0) hO hI hT (by decide) rfl) lk_L_100 ⟨Nat.le_of_ble_eq_true rfl, Nat.le_of_ble_eq_true rfl⟩ rfl (Nat.le_of_ble_eq_true rfl) ⟨by first | exact Nat.le_of_ble_eq_true rfl | omega, by first | exact Nat.le_of_ble_eq_true rfl | omega⟩ (fun n_99 => ?_)
  refine ev_l2i dL_follows_102 (lN_i _) ?_
  refine ev_iremN dL_follows_103 (by first | omega | exact Nat.lt_trans (hB _ _) (by decide) | exact hB _ _) (by first | assumption | omega) (by first | omega | exact Nat.lt_trans (hB _ _) (by decide) | exact hB _ _) ?_
  refine ev_istore (i := 6) dL_follows_104 (Nat.le_of_ble_eq_true rfl) ?_
  refine ev_iconst (v := nI 1) dL_follows_106 rfl ?_
  refine ev_iload_n (i := 1) dL_follows_107 rfl (by repeat (first | with_reducible exact lk_h | ((with_reducible refine lk_e ?_); rfl) | refine lk_m ?_ rfl)) ?_
  refine ev_iconst (v := nI 3) dL_follows_108 rfl ?_
  refine ev_idivN dL_follows_109 (by first | omega | exact Nat.lt_trans (hB _ _) (by decide) | exact hB _ _) (by first | assumption | omega) (by first | omega | exact Nat.lt_trans (hB _ _) (by decide) | exact hB _ _) ?_
  refine ev_iconst (v := nI 2) dL_follows_110 rfl ?_
  refine ev_iremN dL_follows_111 (by first | omega | exact Nat.lt_trans (hB _ _) (by decide) | exact hB _ _) (by first | assumption | omega) (by first | omega | exact Nat.lt_trans (hB _ _) (by decide) | exact hB _ _) ?_
  refine ev_iaddN dL_follows_112 ?_
  refine ev_istore (i := 7) dL_follows_113 (Nat.le_of_ble_eq_true rfl) ?_
  refine ev_aload_n (i := 0) dL_follows_115 rfl (by repeat (first | with_reducible exact lk_h | ((with_reducible refine lk_e ?_); rfl) | refine lk_m ?_ rfl)) ?_
  refine ev_iload (i := 5) dL_follows_116 (by repeat (first | with_reducible exact lk_h | ((with_reducible refine lk_e ?_); rfl) | refine lk_m ?_ rfl)) ?_
  refine ev_iload (i := 6) dL_follows_118 (by repeat (first | with_reducible exact lk_h | ((with_reducible refine lk_e ?_); rfl) | refine lk_m ?_ rfl)) ?_
  refine ev_iload (i := 7) dL_follows_120 (by repeat (first | with_reducible exact lk_h | ((with_reducible refine lk_e ?_); rfl) | refine lk_m ?_ rfl)) ?_
  refine ev_stW dL_follows_122 (a_bestNameS (g := (X % σ 0 0)) (p := (X / 12 % σ 0 0)) (m := (1 + X / 3 % 2)) hO hI hT ha hb (by omega) hv) lk_L_138 ⟨Nat.le_of_ble_eq_true rfl, Nat.le_of_ble_eq_true rfl⟩ rfl (Nat.le_of_ble_eq_true rfl) ⟨by first | exact Nat.le_of_ble_eq_true rfl | omega, by first | exact Nat.le_of_ble_eq_true rfl | omega⟩ (fun n_122 g_122 hg_122 => ?_)
  obtain ⟨hO, fr_122⟩ := hg_122
  replace FR := FR.trans fr_122
  refine ev_lstore (i := 8) dL_follows_125 (Nat.le_of_ble_eq_true rfl) ?_
  refine ev_aload_n (i := 0) dL_follows_127 rfl (by repeat (first | with_reducible exact lk_h | ((with_reducible refine lk_e ?_); rfl) | refine lk_m ?_ rfl)) ?_
  refine ev_iload (i := 5) dL_follows_128 (by repeat (first | with_reducible exact lk_h | ((with_reducible refine lk_e ?_); rfl) | refine lk_m ?_ rfl)) ?_
  refine ev_iload (i := 6) dL_follows_130 (by repeat (first | with_reducible exact lk_h | ((with_reducible refine lk_e ?_); rfl) | refine lk_m ?_ rfl)) ?_
  refine ev_iconst (v := nI 1) dL_follows_132 rfl ?_
  refine ev_iload_n (i := 1) dL_follows_133 rfl (by repeat (first | with_reducible exact lk_h | ((with_reducible refine lk_e ?_); rfl) | refine lk_m ?_ rfl)) ?_
  refine ev_bipush (v := nI 26) dL_follows_134 rfl ?_
  refine ev_iremN dL_follows_136 (by first | omega | exact Nat.lt_trans (hB _ _) (by decide) | exact hB _ _) (by first | assumption | omega) (by first | omega | exact Nat.lt_trans (hB _ _) (by decide) | exact hB _ _) ?_
  refine ev_roW dL_follows_137 (a_why hO hI hT ha hb (decide_eq_true ⟨by omega, by omega, by show _ < 26; omega⟩)) lk_L_134 ⟨Nat.le_of_ble_eq_true rfl, Nat.le_of_ble_eq_true rfl⟩ rfl (Nat.le_of_ble_eq_true rfl) ⟨by first | exact Nat.le_of_ble_eq_true rfl | omega, by first | exact Nat.le_of_ble_eq_true rfl | omega⟩ (fun n_137 => ?_)
  refine ev_lstore (i := 10) dL_follows_140 (Nat.le_of_ble_eq_true rfl) ?_
  refine ev_aload_n (i := 0) dL_follows_142 rfl (by repeat (first | with_reducible exact lk_h | ((with_reducible refine lk_e ?_); rfl) | refine lk_m ?_ rfl)) ?_
  refine ev_iload (i := 5) dL_follows_143 (by repeat (first | with_reducible exact lk_h | ((with_reducible refine lk_e ?_); rfl) | refine lk_m ?_ rfl)) ?_
  refine ev_iload (i := 6) dL_follows_145 (by repeat (first | with_reducible exact lk_h | ((with_reducible refine lk_e ?_); rfl) | refine lk_m ?_ rfl)) ?_
  refine ev_iconst (v := nI 1) dL_follows_147 rfl ?_
  refine ev_iload_n (i := 1) dL_follows_148 rfl (by repeat (first | with_reducible exact lk_h | ((with_reducible refine lk_e ?_); rfl) | refine lk_m ?_ rfl)) ?_
  refine ev_bipush (v := nI 26) dL_follows_149 rfl ?_
  refine ev_iremN dL_follows_151 (by first | omega | exact Nat.lt_trans (hB _ _) (by decide) | exact hB _ _) (by first | assumption | omega) (by first | omega | exact Nat.lt_trans (hB _ _) (by decide) | exact hB _ _) ?_
  refine ev_stW dL_follows_152 (a_give hO hI hT ha hb (decide_eq_true ⟨by omega, by omega, by show _ < 26; omega⟩)) lk_L_126 ⟨Nat.le_of_ble_eq_true rfl, Nat.le_of_ble_eq_true rfl⟩ rfl (Nat.le_of_ble_eq_true rfl) ⟨by first | exact Nat.le_of_ble_eq_true rfl | omega, by first | exact Nat.le_of_ble_eq_true rfl | omega⟩ (fun n_152 g_152 hg_152 => ?_)
  have hc_152 := hO.c14
  replace hO := hg_152.1
  replace FR := FR.trans hg_152.2
  refine ev_lload (i := 10) dL_follows_155 (by repeat (first | with_reducible exact lk_h | ((with_reducible refine lk_e ?_); rfl) | refine lk_m ?_ rfl)) ?_
  refine ev_lcS_ne (tgt := 235) dL_follows_157 dL_follows_158 (by decide) (by rfl) ?_
  refine ev_aload_n (i := 0) dL_follows_161 rfl (by repeat (first | with_reducible exact lk_h | ((with_reducible refine lk_e ?_); rfl) | refine lk_m ?_ rfl)) ?_
  refine ev_stW dL_follows_162 (a_bk hc_152 hO) lk_L_177 ⟨Nat.le_of_ble_eq_true rfl, Nat.le_of_ble_eq_true rfl⟩ rfl (Nat.le_of_ble_eq_true rfl) ⟨by first | exact Nat.le_of_ble_eq_true rfl | omega, by first | exact Nat.le_of_ble_eq_true rfl | omega⟩ (fun n_162 g_162 hg_162 => ?_)
  obtain ⟨hO, fr_162⟩ := hg_162
  replace FR := FR.trans fr_162
  have hb_162 := bk_lt c
  refine ev_lconst (v := lN 0) dL_follows_165 rfl ?_
  refine ev_lcN_lt (tgt := 235) dL_follows_166 dL_follows_167 (by decide) (by first | omega | exact Nat.lt_trans (hB _ _) (by decide) | exact hB _ _) (by first | omega | exact Nat.lt_trans (hB _ _) (by decide) | exact hB _ _) (fun c_166 => absurd c_166 (by omega)) (fun c_166 => ?_)
  refine ev_lload (i := 8) dL_follows_170 (by repeat (first | with_reducible exact lk_h | ((with_reducible refine lk_e ?_); rfl) | refine lk_m ?_ rfl)) ?_
  refine ev_ldc2 dL_follows_172 wq_L_159 ?_
  refine ev_lc_ne (tgt := 195) dL_follows_175 dL_follows_176 (by decide) (fun c_175 => ?_) (fun c_175 => absurd c_175 (by exact lN_neg (by omega)))
  refine ev_lload (i := 8) dL_follows_195 (by repeat (first | with_reducible exact lk_h | ((with_reducible refine lk_e ?_); rfl) | refine lk_m ?_ rfl)) ?_
  refine ev_ldc2 dL_follows_197 wq_L_159 ?_
  refine ev_lc_eq (tgt := 231) dL_follows_200 dL_follows_201 (by decide) (fun c_200 => absurd c_200 (by exact lN_neg (by omega))) (fun c_200 => ?_)
  refine ev_aload_n (i := 0) dL_follows_204 rfl (by repeat (first | with_reducible exact lk_h | ((with_reducible refine lk_e ?_); rfl) | refine lk_m ?_ rfl)) ?_
  refine ev_iload (i := 5) dL_follows_205 (by repeat (first | with_reducible exact lk_h | ((with_reducible refine lk_e ?_); rfl) | refine lk_m ?_ rfl)) ?_
  refine ev_iload (i := 6) dL_follows_207 (by repeat (first | with_reducible exact lk_h | ((with_reducible refine lk_e ?_); rfl) | refine lk_m ?_ rfl)) ?_
  refine ev_iload (i := 7) dL_follows_209 (by repeat (first | with_reducible exact lk_h | ((with_reducible refine lk_e ?_); rfl) | refine lk_m ?_ rfl)) ?_
  refine ev_lload (i := 8) dL_follows_211 (by repeat (first | with_reducible exact lk_h | ((with_reducible refine lk_e ?_); rfl) | refine lk_m ?_ rfl)) ?_
  refine ev_l2i dL_follows_213 (lN_i _) ?_
  refine ev_stW dL_follows_214 (a_giveS (m := (1 + X / 3 % 2)) (k := k) (v := 0) hO hI hT ha hb hmk hw0) lk_L_126 ⟨Nat.le_of_ble_eq_true rfl, Nat.le_of_ble_eq_true rfl⟩ rfl (Nat.le_of_ble_eq_true rfl) ⟨by first | exact Nat.le_of_ble_eq_true rfl | omega, by first | exact Nat.le_of_ble_eq_true rfl | omega⟩ (fun n_214 g_214 hg_214 => ?_)
  have hc_214 := hO.c14
  replace hO := hg_214.1
  replace FR := FR.trans hg_214.2
  refine ev_lconst (v := lN 0) dL_follows_217 rfl ?_
  refine ev_lcS_ne (tgt := 235) dL_follows_218 dL_follows_219 (by decide) (by rfl) ?_
  refine ev_aload_n (i := 0) dL_follows_222 rfl (by repeat (first | with_reducible exact lk_h | ((with_reducible refine lk_e ?_); rfl) | refine lk_m ?_ rfl)) ?_
  refine ev_stW dL_follows_223 (a_bk hc_214 hO) lk_L_177 ⟨Nat.le_of_ble_eq_true rfl, Nat.le_of_ble_eq_true rfl⟩ rfl (Nat.le_of_ble_eq_true rfl) ⟨by first | exact Nat.le_of_ble_eq_true rfl | omega, by first | exact Nat.le_of_ble_eq_true rfl | omega⟩ (fun n_223 g_223 hg_223 => ?_)
  obtain ⟨hO, fr_223⟩ := hg_223
  replace FR := FR.trans fr_223
  have hb_223 := bk_lt (bk c)
  refine ev_lconst (v := lN 0) dL_follows_226 rfl ?_
  refine ev_lcN_lt (tgt := 235) dL_follows_227 dL_follows_228 (by decide) (by first | omega | exact Nat.lt_trans (hB _ _) (by decide) | exact hB _ _) (by first | omega | exact Nat.lt_trans (hB _ _) (by decide) | exact hB _ _) (fun c_227 => absurd c_227 (by omega)) (fun c_227 => ?_)
  refine ev_iconst (v := nI 1) dL_follows_231 rfl ?_
  refine ev_goto (tgt := 236) dL_follows_232 (by decide) ?_
  refine ev_istore (i := 4) dL_follows_236 (Nat.le_of_ble_eq_true rfl) ?_
  exact (fol_238 hI hT2 hX hu hs _ _ _ _ hO FR).sub1 ⟨(by repeat (first | with_reducible exact lk_h | ((with_reducible refine lk_e ?_); rfl) | refine lk_m ?_ rfl)), (by repeat (first | with_reducible exact lk_h | ((with_reducible refine lk_e ?_); rfl) | refine lk_m ?_ rfl)), (by repeat (first | with_reducible exact lk_h | ((with_reducible refine lk_e ?_); rfl) | refine lk_m ?_ rfl)), (by repeat (first | with_reducible exact lk_h | ((with_reducible refine lk_e ?_); rfl) | refine lk_m ?_ rfl)), trivial⟩ (eff_id rfl)
theorem fol_83 {h : eH} {b ℓ X T : Nat} {σ : St} {x : Nat → Nat} {τs : Nat → St} {us : Nat → Nat} (hI : gI σ T) (hT2 : T + 2 < 2 ^ 20) (hX : X < 2 ^ 31) (hu : us 1 ≠ 0) (hs : τs 1 = σ) (h0 : 0 < σ 0 0) : ∀ (g : eH) (n_0 c : Nat) (τ : Nat → St), eNB g b σ x ℓ c τ us τs → eFr h g b (b + 317) → eV mL_follows 83 [(0, .ref b), (1, .int (nI X)), (2, .long (sNow σ)), (4, .int (nI 1))] [] (g, n_0, 0, 0) (.inl (some (.int (nI 1))), (fun g => (∃ τ', eNB g b σ x ℓ 0 τ' us τs) ∧ eFr h g b (b + 317)), none) 1 6 := by
  cases e : sBest σ (X % σ 0 0) (X / 12 % σ 0 0) (1 + X / 3 % 2) with
  | none => exact fol_83a hI hT2 hX hu hs h0 e
  | some k => exact fol_83b hI hT2 hX hu hs h0 e
set_option maxHeartbeats 4000000 in
set_option maxRecDepth 20000 in
theorem c_L_follows {h : eH} {n b ℓ c T : Nat} {σ : St} {x : Nat → Nat} {τ τs : Nat → St} {us : Nat → Nat} (hO : eNB h b σ x ℓ c τ us τs) (hI : gI σ T) (hT2 : T + 2 < 2 ^ 20) {X : Nat} (hX : X < 2 ^ 31) : kL_follows [.ref b, .int (nI X)] h n (.inl (some (.int (nI 1))), (fun g => (∃ τ', eNB g b σ x ℓ 0 τ' (fun i => if i = 1 then 1 else us i) (fun i => if i = 1 then σ else τs i)) ∧ eFr h g b (b + 317)), none) 1 6 := by
  refine eM.of RL "follows" [(0, .ref b), (1, .int (nI X))] pn_L rfl rfl (Nat.le_of_ble_eq_true rfl) rfl ?_
  have hT : T < 2 ^ 20 := by omega
  have hK := hI.ok hT
  have hB := hK.1
  have hP := hK.2.1
  have hN := hK.2.2.1
  have FR : eFr h h b (b + 317) := eFr.rf
  refine ev_aload_n (i := 0) dL_follows_0 rfl (by repeat (first | with_reducible exact lk_h | ((with_reducible refine lk_e ?_); rfl) | refine lk_m ?_ rfl)) ?_
  refine ev_roN dL_follows_1 (c_L_now hO hI hT) lk_L_110 ⟨Nat.le_of_ble_eq_true rfl, Nat.le_of_ble_eq_true rfl⟩ rfl (Nat.le_of_ble_eq_true rfl) ⟨by first | exact Nat.le_of_ble_eq_true rfl | omega, by first | exact Nat.le_of_ble_eq_true rfl | omega⟩ (fun n_1 => ?_)
  refine ev_lstore_n (i := 2) dL_follows_4 rfl (Nat.le_of_ble_eq_true rfl) ?_
  refine ev_aload_n (i := 0) dL_follows_5 rfl (by repeat (first | with_reducible exact lk_h | ((with_reducible refine lk_e ?_); rfl) | refine lk_m ?_ rfl)) ?_
  refine ev_iconst (v := nI 1) dL_follows_6 rfl ?_
  refine ev_stW dL_follows_7 (a_save (s := 1) hO hI hT (by decide)) lk_L_149 ⟨Nat.le_of_ble_eq_true rfl, Nat.le_of_ble_eq_true rfl⟩ rfl (Nat.le_of_ble_eq_true rfl) ⟨by first | exact Nat.le_of_ble_eq_true rfl | omega, by first | exact Nat.le_of_ble_eq_true rfl | omega⟩ (fun n_7 g_7 hg_7 => ?_)
  obtain ⟨hO, fr_7⟩ := hg_7
  replace FR := FR.trans fr_7
  refine ev_aload_n (i := 0) dL_follows_10 rfl (by repeat (first | with_reducible exact lk_h | ((with_reducible refine lk_e ?_); rfl) | refine lk_m ?_ rfl)) ?_
  refine ev_iconst (v := nI 1) dL_follows_11 rfl ?_
  refine ev_roW dL_follows_12 (a_about (w := 1) (v := σ 0 1) hO hI hT (by decide) rfl) lk_L_100 ⟨Nat.le_of_ble_eq_true rfl, Nat.le_of_ble_eq_true rfl⟩ rfl (Nat.le_of_ble_eq_true rfl) ⟨by first | exact Nat.le_of_ble_eq_true rfl | omega, by first | exact Nat.le_of_ble_eq_true rfl | omega⟩ (fun n_12 => ?_)
  refine ev_lcS_ne (tgt := 52) dL_follows_15 dL_follows_16 (by decide) (by rfl) ?_
  refine ev_aload_n (i := 0) dL_follows_19 rfl (by repeat (first | with_reducible exact lk_h | ((with_reducible refine lk_e ?_); rfl) | refine lk_m ?_ rfl)) ?_
  refine ev_iload_n (i := 1) dL_follows_20 rfl (by repeat (first | with_reducible exact lk_h | ((with_reducible refine lk_e ?_); rfl) | refine lk_m ?_ rfl)) ?_
  refine ev_i2l dL_follows_21 (nI_l (by first | omega | exact Nat.lt_trans (hB _ _) (by decide) | exact hB _ _)) ?_
  refine ev_bipush (v := nI 6) dL_follows_22 rfl ?_
  refine ev_stW dL_follows_24 (a_simulate (m := 6) hO hI hT (by omega)) lk_L_146 ⟨Nat.le_of_ble_eq_true rfl, Nat.le_of_ble_eq_true rfl⟩ rfl (Nat.le_of_ble_eq_true rfl) ⟨by first | exact Nat.le_of_ble_eq_true rfl | omega, by first | exact Nat.le_of_ble_eq_true rfl | omega⟩ (fun n_24 g_24 hg_24 => ?_)
  obtain ⟨hO, fr_24⟩ := hg_24
  replace FR := FR.trans fr_24
  refine ev_aload_n (i := 0) dL_follows_27 rfl (by repeat (first | with_reducible exact lk_h | ((with_reducible refine lk_e ?_); rfl) | refine lk_m ?_ rfl)) ?_
  refine ev_iload_n (i := 1) dL_follows_28 rfl (by repeat (first | with_reducible exact lk_h | ((with_reducible refine lk_e ?_); rfl) | refine lk_m ?_ rfl)) ?_
  refine ev_i2l dL_follows_29 (nI_l (by first | omega | exact Nat.lt_trans (hB _ _) (by decide) | exact hB _ _)) ?_
  refine ev_bipush (v := nI 6) dL_follows_30 rfl ?_
  refine ev_stW dL_follows_32 (a_simulate (m := 6) hO hI hT (by omega)) lk_L_146 ⟨Nat.le_of_ble_eq_true rfl, Nat.le_of_ble_eq_true rfl⟩ rfl (Nat.le_of_ble_eq_true rfl) ⟨by first | exact Nat.le_of_ble_eq_true rfl | omega, by first | exact Nat.le_of_ble_eq_true rfl | omega⟩ (fun n_32 g_32 hg_32 => ?_)
  obtain ⟨hO, fr_32⟩ := hg_32
  replace FR := FR.trans fr_32
  refine ev_lcS_ne (tgt := 52) dL_follows_35 dL_follows_36 (by decide) (by rfl) ?_
  refine ev_aload_n (i := 0) dL_follows_39 rfl (by repeat (first | with_reducible exact lk_h | ((with_reducible refine lk_e ?_); rfl) | refine lk_m ?_ rfl)) ?_
  refine ev_roN dL_follows_40 (c_L_now hO hI hT) lk_L_110 ⟨Nat.le_of_ble_eq_true rfl, Nat.le_of_ble_eq_true rfl⟩ rfl (Nat.le_of_ble_eq_true rfl) ⟨by first | exact Nat.le_of_ble_eq_true rfl | omega, by first | exact Nat.le_of_ble_eq_true rfl | omega⟩ (fun n_40 => ?_)
  refine ev_lload_n (i := 2) dL_follows_43 rfl (by repeat (first | with_reducible exact lk_h | ((with_reducible refine lk_e ?_); rfl) | refine lk_m ?_ rfl)) ?_
  refine ev_lcS_ne (tgt := 52) dL_follows_44 dL_follows_45 (by decide) (by rfl) ?_
  refine ev_iconst (v := nI 1) dL_follows_48 rfl ?_
  refine ev_goto (tgt := 53) dL_follows_49 (by decide) ?_
  refine ev_istore (i := 4) dL_follows_53 (Nat.le_of_ble_eq_true rfl) ?_
  refine ev_aload_n (i := 0) dL_follows_55 rfl (by repeat (first | with_reducible exact lk_h | ((with_reducible refine lk_e ?_); rfl) | refine lk_m ?_ rfl)) ?_
  refine ev_iconst (v := nI 0) dL_follows_56 rfl ?_
  refine ev_roW dL_follows_57 (a_about (w := 0) (v := σ 0 0) hO hI hT (by decide) rfl) lk_L_100 ⟨Nat.le_of_ble_eq_true rfl, Nat.le_of_ble_eq_true rfl⟩ rfl (Nat.le_of_ble_eq_true rfl) ⟨by first | exact Nat.le_of_ble_eq_true rfl | omega, by first | exact Nat.le_of_ble_eq_true rfl | omega⟩ (fun n_57 => ?_)
  refine ev_lconst (v := lN 0) dL_follows_60 rfl ?_
  refine ev_lcN_le (tgt := 342) dL_follows_61 dL_follows_62 (by decide) (by first | omega | exact Nat.lt_trans (hB _ _) (by decide) | exact hB _ _) (by first | omega | exact Nat.lt_trans (hB _ _) (by decide) | exact hB _ _) (fun c_61 => ?_) (fun c_61 => ?_)
  · exact (fol_342 hI hT2 hX (by simp) (by simp) _ _ _ _ hO FR).sub1 ⟨(by repeat (first | with_reducible exact lk_h | ((with_reducible refine lk_e ?_); rfl) | refine lk_m ?_ rfl)), (by repeat (first | with_reducible exact lk_h | ((with_reducible refine lk_e ?_); rfl) | refine lk_m ?_ rfl)), (by repeat (first | with_reducible exact lk_h | ((with_reducible refine lk_e ?_); rfl) | refine lk_m ?_ rfl)), (by repeat (first | with_reducible exact lk_h | ((with_reducible refine lk_e ?_); rfl) | refine lk_m ?_ rfl)), trivial⟩ (eff_id rfl)
  · refine ev_aload_n (i := 0) dL_follows_65 rfl (by repeat (first | with_reducible exact lk_h | ((with_reducible refine lk_e ?_); rfl) | refine lk_m ?_ rfl)) ?_
    refine ev_bipush (v := nI 7) dL_follows_66 rfl ?_
    refine ev_roW dL_follows_68 (a_about (w := 7) (v := σ 0 2) hO hI hT (by decide) rfl) lk_L_100 ⟨Nat.le_of_ble_eq_true rfl, Nat.le_of_ble_eq_true rfl⟩ rfl (Nat.le_of_ble_eq_true rfl) ⟨by first | exact Nat.le_of_ble_eq_true rfl | omega, by first | exact Nat.le_of_ble_eq_true rfl | omega⟩ (fun n_68 => ?_)
    refine ev_ldc2 (v := lN 900) dL_follows_71 wq_L_175 ?_
    refine ev_lcN_ge (tgt := 342) dL_follows_74 dL_follows_75 (by decide) (by first | omega | exact Nat.lt_trans (hB _ _) (by decide) | exact hB _ _) (by first | omega | exact Nat.lt_trans (hB _ _) (by decide) | exact hB _ _) (fun c_74 => ?_) (fun c_74 => ?_)
    · exact (fol_342 hI hT2 hX (by simp) (by simp) _ _ _ _ hO FR).sub1 ⟨(by repeat (first | with_reducible exact lk_h | ((with_reducible refine lk_e ?_); rfl) | refine lk_m ?_ rfl)), (by repeat (first | with_reducible exact lk_h | ((with_reducible refine lk_e ?_); rfl) | refine lk_m ?_ rfl)), (by repeat (first | with_reducible exact lk_h | ((with_reducible refine lk_e ?_); rfl) | refine lk_m ?_ rfl)), (by repeat (first | with_reducible exact lk_h | ((with_reducible refine lk_e ?_); rfl) | refine lk_m ?_ rfl)), trivial⟩ (eff_id rfl)
    · refine ev_iload (i := 4) dL_follows_78 (by repeat (first | with_reducible exact lk_h | ((with_reducible refine lk_e ?_); rfl) | refine lk_m ?_ rfl)) ?_
      refine ev_if_eqN (tgt := 342) dL_follows_80 (by decide) (by decide) (fun c => absurd c (by decide)) (fun _ => ?_)
      exact (fol_83 hI hT2 hX (by simp) (by simp) c_61 _ _ _ _ hO FR).sub1 ⟨(by repeat (first | with_reducible exact lk_h | ((with_reducible refine lk_e ?_); rfl) | refine lk_m ?_ rfl)), (by repeat (first | with_reducible exact lk_h | ((with_reducible refine lk_e ?_); rfl) | refine lk_m ?_ rfl)), (by repeat (first | with_reducible exact lk_h | ((with_reducible refine lk_e ?_); rfl) | refine lk_m ?_ rfl)), (by repeat (first | with_reducible exact lk_h | ((with_reducible refine lk_e ?_); rfl) | refine lk_m ?_ rfl)), trivial⟩ (eff_id rfl)
