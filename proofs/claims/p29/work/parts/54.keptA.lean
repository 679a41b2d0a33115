/-! KEPT -/
theorem a_letterS {h : eH} {n b ℓ c T : Nat} {σ : St} {x : Nat → Nat} {τ τs : Nat → St} {us : Nat → Nat} (hO : eNB h b σ x ℓ c τ us τs) (hI : gI σ T) (hT : T < 2 ^ 20) {k p v : Nat} (hk : k < σ 0 1) (hp : p < 2 ^ 31) (hv : sLetter σ k p = some v) : kL_letter [.ref b, .int (nI k), .int (nI p)] h n (.inl (some (.long (lN v))), (· = h), some n) 0 0 := by
  have q := a_letter (n := n) hO hI hT hk hp
  rw [hv] at q
  exact q
theorem a_letterN {h : eH} {n b ℓ c T : Nat} {σ : St} {x : Nat → Nat} {τ τs : Nat → St} {us : Nat → Nat} (hO : eNB h b σ x ℓ c τ us τs) (hI : gI σ T) (hT : T < 2 ^ 20) {k p : Nat} (hk : k < σ 0 1) (hp : p < 2 ^ 31) (hv : sLetter σ k p = none) : kL_letter [.ref b, .int (nI k), .int (nI p)] h n (.inl (some (.long (-1))), (· = h), some n) 0 0 := by
  have q := a_letter (n := n) hO hI hT hk hp
  rw [hv] at q
  exact q
theorem a_rollS {h : eH} {n b ℓ c T : Nat} {σ : St} {x : Nat → Nat} {τ τs : Nat → St} {us : Nat → Nat} (hO : eNB h b σ x ℓ c τ us τs) (hI : gI σ T) (hT : T < 2 ^ 20) {k v : Nat} (hk : k < 2 ^ 31) (hv : sRank σ k = some v) : kL_roll [.ref b, .int (nI k)] h n (.inl (some (.long (lN v))), (· = h), some n) 0 0 := by
  have q := a_roll (n := n) hO hI hT hk
  rw [hv] at q
  exact q
theorem a_rollN {h : eH} {n b ℓ c T : Nat} {σ : St} {x : Nat → Nat} {τ τs : Nat → St} {us : Nat → Nat} (hO : eNB h b σ x ℓ c τ us τs) (hI : gI σ T) (hT : T < 2 ^ 20) {k : Nat} (hk : k < 2 ^ 31) (hv : sRank σ k = none) : kL_roll [.ref b, .int (nI k)] h n (.inl (some (.long (-1))), (· = h), some n) 0 0 := by
  have q := a_roll (n := n) hO hI hT hk
  rw [hv] at q
  exact q
theorem a_meantS {h : eH} {n b ℓ c T : Nat} {σ : St} {x : Nat → Nat} {τ τs : Nat → St} {us : Nat → Nat} (hO : eNB h b σ x ℓ c τ us τs) (hI : gI σ T) (hT : T < 2 ^ 20) {d m k w v : Nat} (hd : d < 4) (hmc : sCode m k = true) (hw : w = 0 ∨ w = 1) (hv : sMeant σ d m k = some v) : kL_meant [.ref b, .int (nI d), .int (nI m), .int (nI k), .int (nI w)] h n (.inl (some (.long (lN v))), (· = h), some n) 0 0 := by
  have q := a_meant (n := n) hO hI hT hd hmc hw
  rw [hv] at q
  exact q
theorem a_bgS {h : eH} {n b ℓ c T : Nat} {σ : St} {x : Nat → Nat} {τ τs : Nat → St} {us : Nat → Nat} (hO : eNB h b σ x ℓ c τ us τs) (hI : gI σ T) (hT : T < 2 ^ 20) {v : Nat} (hv : sBG σ = some v) : kX10_bestGiver [.ref b] h n (.inl (some (.int (nI v))), (· = h), some n) 0 0 := by
  have q := c_X10_bestGiver (n := n) hO (hI.ok hT)
  rw [hv] at q
  exact q
theorem a_bgN {h : eH} {n b ℓ c T : Nat} {σ : St} {x : Nat → Nat} {τ τs : Nat → St} {us : Nat → Nat} (hO : eNB h b σ x ℓ c τ us τs) (hI : gI σ T) (hT : T < 2 ^ 20) (hv : sBG σ = none) : kX10_bestGiver [.ref b] h n (.inl (some (.int (-1))), (· = h), some n) 0 0 := by
  have q := c_X10_bestGiver (n := n) hO (hI.ok hT)
  rw [hv] at q
  exact q
theorem a_mxS {h : eH} {n b ℓ c T : Nat} {σ : St} {x : Nat → Nat} {τ τs : Nat → St} {us : Nat → Nat} (hO : eNB h b σ x ℓ c τ us τs) (hI : gI σ T) (hT : T < 2 ^ 20) {v : Nat} (hv : sMixed σ = some v) : kX10_mixed [.ref b] h n (.inl (some (.int (nI v))), (· = h), some n) 0 0 := by
  have q := c_X10_mixed (n := n) hO (hI.ok hT)
  rw [hv] at q
  exact q
theorem a_mxN {h : eH} {n b ℓ c T : Nat} {σ : St} {x : Nat → Nat} {τ τs : Nat → St} {us : Nat → Nat} (hO : eNB h b σ x ℓ c τ us τs) (hI : gI σ T) (hT : T < 2 ^ 20) (hv : sMixed σ = none) : kX10_mixed [.ref b] h n (.inl (some (.int (-1))), (· = h), some n) 0 0 := by
  have q := c_X10_mixed (n := n) hO (hI.ok hT)
  rw [hv] at q
  exact q
theorem sAl_b {σ : St} {T : Nat} (hI : gI σ T) (hT : T < 2 ^ 20) : sAl σ ≤ 40 := Nat.le_trans (cnt_le _ _) (hI.ok hT).2.2.1
set_option maxHeartbeats 4000000 in
set_option maxRecDepth 20000 in
theorem kept_861a {h : eH} {b ℓ c T : Nat} {σ : St} {x : Nat → Nat} {τ τs : Nat → St} {us : Nat → Nat} (hO : eNB h b σ x ℓ c τ us τs) (hI : gI σ T) (hT : T < 2 ^ 20) (h1 : sMax (σ 4) (σ 0 0) = 0) (h2 : sMixed σ = none) : ∀ n_0 : Nat, eV mL_kept 861 [(0, .ref b), (18, .long (lN (sMax (σ 4) (σ 0 0))))] [] (h, n_0, 0, 0) (.inl (some (.int (nI 1))), (· = h), none) 0 0 := by
  have hK := hI.ok hT
  have hB := hK.1
  have hP := hK.2.1
  have hN := hK.2.2.1
  have hA := sAl_b hI hT
  intro n_0
  refine ev_lload (i := 18) dL_kept_861 (by repeat (first | with_reducible exact lk_h | ((with_reducible refine lk_e ?_); rfl) | refine lk_m ?_ rfl)) ?_
  refine ev_lconst (v := lN 0) dL_kept_863 rfl ?_
  refine ev_lcN_ne (tgt := 879) dL_kept_864 dL_kept_865 (by decide) (by first | omega | (rw [← h4]; exact Nat.lt_trans (hB _ _) (by decide))) (by first | omega | (rw [← h4]; exact Nat.lt_trans (hB _ _) (by decide))) (fun c_864 => absurd c_864 (by omega)) (fun c_864 => ?_)
  refine ev_aload_n (i := 0) dL_kept_868 rfl (by repeat (first | with_reducible exact lk_h | ((with_reducible refine lk_e ?_); rfl) | refine lk_m ?_ rfl)) ?_
  refine ev_roV dL_kept_869 (a_mxN hO hI hT h2) rfl lk_L_172 hO.1 ⟨Nat.le_of_ble_eq_true rfl, Nat.le_of_ble_eq_true rfl⟩ rfl (Nat.le_of_ble_eq_true rfl) ⟨by first | exact Nat.le_of_ble_eq_true rfl | omega, by first | exact Nat.le_of_ble_eq_true rfl | omega⟩ (fun n_869 => ?_)
  refine ev_iconst (v := -1) dL_kept_872 (by decide) ?_
  refine ev_icS_ne (tgt := 899) dL_kept_873 (by decide) (by rfl) ?_
  refine ev_goto (tgt := 895) dL_kept_876 (by decide) ?_
  refine ev_iconst (v := nI 1) dL_kept_895 rfl ?_
  refine ev_goto (tgt := 900) dL_kept_896 (by decide) ?_
  exact ev_iret dL_kept_900 rfl (by first | rfl | exact bI_n _) (by rfl) (by rfl) (fun _ e => nomatch e) (by first | exact Nat.le_of_ble_eq_true rfl | omega) (by first | exact Nat.le_of_ble_eq_true rfl | omega)
set_option maxHeartbeats 4000000 in
set_option maxRecDepth 20000 in
theorem kept_861b {h : eH} {b ℓ c T : Nat} {σ : St} {x : Nat → Nat} {τ τs : Nat → St} {us : Nat → Nat} (hO : eNB h b σ x ℓ c τ us τs) (hI : gI σ T) (hT : T < 2 ^ 20) {m : Nat} (h1 : sMax (σ 4) (σ 0 0) ≠ 0) (h2 : sMixed σ = some m) (h3 : m < σ 0 0) (h4 : σ 4 m = sMax (σ 4) (σ 0 0)) : ∀ n_0 : Nat, eV mL_kept 861 [(0, .ref b), (18, .long (lN (sMax (σ 4) (σ 0 0))))] [] (h, n_0, 0, 0) (.inl (some (.int (nI 1))), (· = h), none) 0 0 := by
  have hK := hI.ok hT
  have hB := hK.1
  have hP := hK.2.1
  have hN := hK.2.2.1
  have hA := sAl_b hI hT
  intro n_0
  refine ev_lload (i := 18) dL_kept_861 (by repeat (first | with_reducible exact lk_h | ((with_reducible refine lk_e ?_); rfl) | refine lk_m ?_ rfl)) ?_
  refine ev_lconst (v := lN 0) dL_kept_863 rfl ?_
  refine ev_lcN_ne (tgt := 879) dL_kept_864 dL_kept_865 (by decide) (by first | omega | (rw [← h4]; exact Nat.lt_trans (hB _ _) (by decide))) (by first | omega | (rw [← h4]; exact Nat.lt_trans (hB _ _) (by decide))) (fun c_864 => ?_) (fun c_864 => absurd c_864 (by omega))
  refine ev_aload_n (i := 0) dL_kept_879 rfl (by repeat (first | with_reducible exact lk_h | ((with_reducible refine lk_e ?_); rfl) | refine lk_m ?_ rfl)) ?_
  refine ev_aload_n (i := 0) dL_kept_880 rfl (by repeat (first | with_reducible exact lk_h | ((with_reducible refine lk_e ?_); rfl) | refine lk_m ?_ rfl)) ?_
  refine ev_roV dL_kept_881 (a_mxS hO hI hT h2) rfl lk_L_172 hO.1 ⟨Nat.le_of_ble_eq_true rfl, Nat.le_of_ble_eq_true rfl⟩ rfl (Nat.le_of_ble_eq_true rfl) ⟨by first | exact Nat.le_of_ble_eq_true rfl | omega, by first | exact Nat.le_of_ble_eq_true rfl | omega⟩ (fun n_881 => ?_)
  refine ev_bipush (v := nI 7) dL_kept_884 rfl ?_
  refine ev_roW dL_kept_886 (a_personOf (p := m) (w := 7) (v := σ 4 m) hO hI hT h3 (by decide) (rfl)) lk_L_105 ⟨Nat.le_of_ble_eq_true rfl, Nat.le_of_ble_eq_true rfl⟩ rfl (Nat.le_of_ble_eq_true rfl) ⟨by first | exact Nat.le_of_ble_eq_true rfl | omega, by first | exact Nat.le_of_ble_eq_true rfl | omega⟩ (fun n_886 => ?_)
  refine ev_lload (i := 18) dL_kept_889 (by repeat (first | with_reducible exact lk_h | ((with_reducible refine lk_e ?_); rfl) | refine lk_m ?_ rfl)) ?_
  refine ev_lcS_ne (tgt := 899) dL_kept_891 dL_kept_892 (by decide) (by rw [h4]) ?_
  refine ev_iconst (v := nI 1) dL_kept_895 rfl ?_
  refine ev_goto (tgt := 900) dL_kept_896 (by decide) ?_
  exact ev_iret dL_kept_900 rfl (by first | rfl | exact bI_n _) (by rfl) (by rfl) (fun _ e => nomatch e) (by first | exact Nat.le_of_ble_eq_true rfl | omega) (by first | exact Nat.le_of_ble_eq_true rfl | omega)
theorem kept_861 {h : eH} {b ℓ c T : Nat} {σ : St} {x : Nat → Nat} {τ τs : Nat → St} {us : Nat → Nat} (hO : eNB h b σ x ℓ c τ us τs) (hI : gI σ T) (hT : T < 2 ^ 20) : ∀ n_0 : Nat, eV mL_kept 861 [(0, .ref b), (18, .long (lN (sMax (σ 4) (σ 0 0))))] [] (h, n_0, 0, 0) (.inl (some (.int (nI 1))), (· = h), none) 0 0 := by
  rcases sMix_max (σ := σ) (σ 0 0) with ⟨h1, h2⟩ | ⟨h1, p, h2, h3, h4⟩
  · exact kept_861a hO hI hT h1 h2
  · exact kept_861b hO hI hT h1 h2 h3 h4
set_option maxHeartbeats 4000000 in
set_option maxRecDepth 20000 in
theorem kept_836a {h : eH} {b ℓ c T : Nat} {σ : St} {x : Nat → Nat} {τ τs : Nat → St} {us : Nat → Nat} (hO : eNB h b σ x ℓ c τ us τs) (hI : gI σ T) (hT : T < 2 ^ 20) (hz : σ 0 1 = 0) (hv : sBG σ = none) : ∀ n_0 : Nat, eV mL_kept 836 [(0, .ref b), (1, .int (nI (σ 0 1))), (18, .long (lN (sMax (σ 4) (σ 0 0))))] [] (h, n_0, 0, 0) (.inl (some (.int (nI 1))), (· = h), none) 0 0 := by
  have hK := hI.ok hT
  have hB := hK.1
  have hP := hK.2.1
  have hN := hK.2.2.1
  have hA := sAl_b hI hT
  intro n_0
  refine ev_aload_n (i := 0) dL_kept_836 rfl (by repeat (first | with_reducible exact lk_h | ((with_reducible refine lk_e ?_); rfl) | refine lk_m ?_ rfl)) ?_
  refine ev_roV dL_kept_837 (a_bgN hO hI hT hv) rfl lk_L_169 hO.1 ⟨Nat.le_of_ble_eq_true rfl, Nat.le_of_ble_eq_true rfl⟩ rfl (Nat.le_of_ble_eq_true rfl) ⟨by first | exact Nat.le_of_ble_eq_true rfl | omega, by first | exact Nat.le_of_ble_eq_true rfl | omega⟩ (fun n_837 => ?_)
  refine ev_iconst (v := -1) dL_kept_840 (by decide) ?_
  refine ev_icS_ne (tgt := 848) dL_kept_841 (by decide) (by rfl) ?_
  refine ev_iconst (v := nI 1) dL_kept_844 rfl ?_
  refine ev_goto (tgt := 849) dL_kept_845 (by decide) ?_
  refine ev_iload_n (i := 1) dL_kept_849 rfl (by repeat (first | with_reducible exact lk_h | ((with_reducible refine lk_e ?_); rfl) | refine lk_m ?_ rfl)) ?_
  refine ev_if_neN (tgt := 857) dL_kept_850 (by decide) (by first | omega | exact Nat.lt_trans (hB _ _) (by decide) | exact hB _ _) (fun c_850 => absurd c_850 (by omega)) (fun c_850 => ?_)
  refine ev_iconst (v := nI 1) dL_kept_853 rfl ?_
  refine ev_goto (tgt := 858) dL_kept_854 (by decide) ?_
  refine ev_icS_ne (tgt := 899) dL_kept_858 (by decide) (by rfl) ?_
  exact (kept_861 hO hI hT _).sub1 ⟨(by repeat (first | with_reducible exact lk_h | ((with_reducible refine lk_e ?_); rfl) | refine lk_m ?_ rfl)), (by repeat (first | with_reducible exact lk_h | ((with_reducible refine lk_e ?_); rfl) | refine lk_m ?_ rfl)), trivial⟩ (eff_id rfl)
set_option maxHeartbeats 4000000 in
set_option maxRecDepth 20000 in
theorem kept_836b {h : eH} {b ℓ c T : Nat} {σ : St} {x : Nat → Nat} {τ τs : Nat → St} {us : Nat → Nat} (hO : eNB h b σ x ℓ c τ us τs) (hI : gI σ T) (hT : T < 2 ^ 20) {e : Nat} (hz : σ 0 1 ≠ 0) (hv : sBG σ = some e) (he : e < σ 0 0) : ∀ n_0 : Nat, eV mL_kept 836 [(0, .ref b), (1, .int (nI (σ 0 1))), (18, .long (lN (sMax (σ 4) (σ 0 0))))] [] (h, n_0, 0, 0) (.inl (some (.int (nI 1))), (· = h), none) 0 0 := by
  have hK := hI.ok hT
  have hB := hK.1
  have hP := hK.2.1
  have hN := hK.2.2.1
  have hA := sAl_b hI hT
  intro n_0
  refine ev_aload_n (i := 0) dL_kept_836 rfl (by repeat (first | with_reducible exact lk_h | ((with_reducible refine lk_e ?_); rfl) | refine lk_m ?_ rfl)) ?_
  refine ev_roV dL_kept_837 (a_bgS hO hI hT hv) rfl lk_L_169 hO.1 ⟨Nat.le_of_ble_eq_true rfl, Nat.le_of_ble_eq_true rfl⟩ rfl (Nat.le_of_ble_eq_true rfl) ⟨by first | exact Nat.le_of_ble_eq_true rfl | omega, by first | exact Nat.le_of_ble_eq_true rfl | omega⟩ (fun n_837 => ?_)
  refine ev_iconst (v := -1) dL_kept_840 (by decide) ?_
  refine ev_icmp_ne (tgt := 848) dL_kept_841 (by decide) (fun c_841 => ?_) (fun c_841 => absurd c_841 (by exact nI_neg (by omega)))
  refine ev_iconst (v := nI 0) dL_kept_848 rfl ?_
  refine ev_iload_n (i := 1) dL_kept_849 rfl (by repeat (first | with_reducible exact lk_h | ((with_reducible refine lk_e ?_); rfl) | refine lk_m ?_ rfl)) ?_
  refine ev_if_neN (tgt := 857) dL_kept_850 (by decide) (by first | omega | exact Nat.lt_trans (hB _ _) (by decide) | exact hB _ _) (fun c_850 => ?_) (fun c_850 => absurd c_850 (by omega))
  refine ev_iconst (v := nI 0) dL_kept_857 rfl ?_
  refine ev_icS_ne (tgt := 899) dL_kept_858 (by decide) (by rfl) ?_
  exact (kept_861 hO hI hT _).sub1 ⟨(by repeat (first | with_reducible exact lk_h | ((with_reducible refine lk_e ?_); rfl) | refine lk_m ?_ rfl)), (by repeat (first | with_reducible exact lk_h | ((with_reducible refine lk_e ?_); rfl) | refine lk_m ?_ rfl)), trivial⟩ (eff_id rfl)
theorem kept_836 {h : eH} {b ℓ c T : Nat} {σ : St} {x : Nat → Nat} {τ τs : Nat → St} {us : Nat → Nat} (hO : eNB h b σ x ℓ c τ us τs) (hI : gI σ T) (hT : T < 2 ^ 20) : ∀ n_0 : Nat, eV mL_kept 836 [(0, .ref b), (1, .int (nI (σ 0 1))), (18, .long (lN (sMax (σ 4) (σ 0 0))))] [] (h, n_0, 0, 0) (.inl (some (.int (nI 1))), (· = h), none) 0 0 := by
  cases e : sBG σ with
  | none => exact kept_836a hO hI hT ((sBG_none hI.1).mp e) e
  | some k => exact kept_836b hO hI hT (fun z => by rw [(sBG_none hI.1).mpr z] at e; cases e) e (sBGTo_lt e)
set_option maxHeartbeats 4000000 in
set_option maxRecDepth 20000 in
theorem kept_755 {h : eH} {b ℓ c T : Nat} {σ : St} {x : Nat → Nat} {τ τs : Nat → St} {us : Nat → Nat} (hO : eNB h b σ x ℓ c τ us τs) (hI : gI σ T) (hT : T < 2 ^ 20) : ∀ n_0 : Nat, eV mL_kept 755 [(0, .ref b), (1, .int (nI (σ 0 1))), (2, .int (nI (1))), (3, .long (lN (sSum (σ 10) (σ 0 1)))), (5, .long (lN (sSum (σ 4) (σ 0 0)))), (7, .long (lN (sSum (σ 5) (σ 0 0)))), (9, .long (lN (sSum (sGiven σ) (σ 0 0)))), (11, .long (lN (sSum (σ 13) (σ 0 1)))), (13, .int (nI (sAl σ))), (14, .long (lN (sSum (sLives σ) (σ 0 0)))), (16, .long (lN (sSum (sStuckG σ) (σ 0 0)))), (18, .long (lN (sMax (σ 4) (σ 0 0)))), (20, .long (lN (sSum (sInState σ) 5)))] [] (h, n_0, 0, 0) (.inl (some (.int (nI 1))), (· = h), none) 0 0 := by
  have hK := hI.ok hT
  have hB := hK.1
  have hP := hK.2.1
  have hN := hK.2.2.1
  have hA := sAl_b hI hT
  intro n_0
  refine ev_iload_n (i := 2) dL_kept_755 rfl (by repeat (first | with_reducible exact lk_h | ((with_reducible refine lk_e ?_); rfl) | refine lk_m ?_ rfl)) ?_
  refine ev_if_eqN (tgt := 899) dL_kept_756 (by decide) (by decide) (fun c => absurd c (by decide)) (fun _ => ?_)
  refine ev_aload_n (i := 0) dL_kept_759 rfl (by repeat (first | with_reducible exact lk_h | ((with_reducible refine lk_e ?_); rfl) | refine lk_m ?_ rfl)) ?_
  refine ev_iload (i := 13) dL_kept_760 (by repeat (first | with_reducible exact lk_h | ((with_reducible refine lk_e ?_); rfl) | refine lk_m ?_ rfl)) ?_
  refine ev_roW dL_kept_762 (a_rollN hO hI hT (by omega) sRank_end) lk_L_116 ⟨Nat.le_of_ble_eq_true rfl, Nat.le_of_ble_eq_true rfl⟩ rfl (Nat.le_of_ble_eq_true rfl) ⟨by first | exact Nat.le_of_ble_eq_true rfl | omega, by first | exact Nat.le_of_ble_eq_true rfl | omega⟩ (fun n_762 => ?_)
  refine ev_ldc2 dL_kept_765 wq_L_159 ?_
  refine ev_lcS_ne (tgt := 899) dL_kept_768 dL_kept_769 (by decide) (by rfl) ?_
  refine ev_lload (i := 14) dL_kept_772 (by repeat (first | with_reducible exact lk_h | ((with_reducible refine lk_e ?_); rfl) | refine lk_m ?_ rfl)) ?_
  refine ev_iload (i := 13) dL_kept_774 (by repeat (first | with_reducible exact lk_h | ((with_reducible refine lk_e ?_); rfl) | refine lk_m ?_ rfl)) ?_
  refine ev_i2l dL_kept_776 (nI_l (by first | omega | exact Nat.lt_trans (hB _ _) (by decide) | exact hB _ _)) ?_
  refine ev_lcS_ne (tgt := 899) dL_kept_777 dL_kept_778 (by decide) (by rw [sLives_sum hI.1.ho]) ?_
  refine ev_lload (i := 9) dL_kept_781 (by repeat (first | with_reducible exact lk_h | ((with_reducible refine lk_e ?_); rfl) | refine lk_m ?_ rfl)) ?_
  refine ev_iload_n (i := 1) dL_kept_783 rfl (by repeat (first | with_reducible exact lk_h | ((with_reducible refine lk_e ?_); rfl) | refine lk_m ?_ rfl)) ?_
  refine ev_i2l dL_kept_784 (nI_l (by first | omega | exact Nat.lt_trans (hB _ _) (by decide) | exact hB _ _)) ?_
  refine ev_lcS_ne (tgt := 899) dL_kept_785 dL_kept_786 (by decide) (by rw [sGiven_sum hI.1]) ?_
  refine ev_lload (i := 16) dL_kept_789 (by repeat (first | with_reducible exact lk_h | ((with_reducible refine lk_e ?_); rfl) | refine lk_m ?_ rfl)) ?_
  refine ev_lload (i := 11) dL_kept_791 (by repeat (first | with_reducible exact lk_h | ((with_reducible refine lk_e ?_); rfl) | refine lk_m ?_ rfl)) ?_
  refine ev_lcS_ne (tgt := 899) dL_kept_793 dL_kept_794 (by decide) (by rw [sStuck_sum hI.1]) ?_
  refine ev_lload (i := 5) dL_kept_797 (by repeat (first | with_reducible exact lk_h | ((with_reducible refine lk_e ?_); rfl) | refine lk_m ?_ rfl)) ?_
  refine ev_aload_n (i := 0) dL_kept_799 rfl (by repeat (first | with_reducible exact lk_h | ((with_reducible refine lk_e ?_); rfl) | refine lk_m ?_ rfl)) ?_
  refine ev_bipush (v := nI 9) dL_kept_800 rfl ?_
  refine ev_roW dL_kept_802 (a_about (w := 9) (v := σ 0 3) hO hI hT (by first | decide | omega) (rfl)) lk_L_100 ⟨Nat.le_of_ble_eq_true rfl, Nat.le_of_ble_eq_true rfl⟩ rfl (Nat.le_of_ble_eq_true rfl) ⟨by first | exact Nat.le_of_ble_eq_true rfl | omega, by first | exact Nat.le_of_ble_eq_true rfl | omega⟩ (fun n_802 => ?_)
  refine ev_lcS_ne (tgt := 899) dL_kept_805 dL_kept_806 (by decide) (by rw [hI.2.2.2.2.1]) ?_
  refine ev_lload (i := 7) dL_kept_809 (by repeat (first | with_reducible exact lk_h | ((with_reducible refine lk_e ?_); rfl) | refine lk_m ?_ rfl)) ?_
  refine ev_lload (i := 5) dL_kept_811 (by repeat (first | with_reducible exact lk_h | ((with_reducible refine lk_e ?_); rfl) | refine lk_m ?_ rfl)) ?_
  refine ev_lcS_ne (tgt := 899) dL_kept_813 dL_kept_814 (by decide) (by rw [hI.2.2.2.2.1, hI.2.2.2.2.2]) ?_
  refine ev_lload_n (i := 3) dL_kept_817 rfl (by repeat (first | with_reducible exact lk_h | ((with_reducible refine lk_e ?_); rfl) | refine lk_m ?_ rfl)) ?_
  refine ev_aload_n (i := 0) dL_kept_818 rfl (by repeat (first | with_reducible exact lk_h | ((with_reducible refine lk_e ?_); rfl) | refine lk_m ?_ rfl)) ?_
  refine ev_bipush (v := nI 8) dL_kept_819 rfl ?_
  refine ev_roW dL_kept_821 (a_about (w := 8) (v := sSum (σ 10) (σ 0 1)) hO hI hT (by first | decide | omega) (rfl)) lk_L_100 ⟨Nat.le_of_ble_eq_true rfl, Nat.le_of_ble_eq_true rfl⟩ rfl (Nat.le_of_ble_eq_true rfl) ⟨by first | exact Nat.le_of_ble_eq_true rfl | omega, by first | exact Nat.le_of_ble_eq_true rfl | omega⟩ (fun n_821 => ?_)
  refine ev_lcS_ne (tgt := 899) dL_kept_824 dL_kept_825 (by decide) (by rfl) ?_
  refine ev_lload (i := 20) dL_kept_828 (by repeat (first | with_reducible exact lk_h | ((with_reducible refine lk_e ?_); rfl) | refine lk_m ?_ rfl)) ?_
  refine ev_iload_n (i := 1) dL_kept_830 rfl (by repeat (first | with_reducible exact lk_h | ((with_reducible refine lk_e ?_); rfl) | refine lk_m ?_ rfl)) ?_
  refine ev_i2l dL_kept_831 (nI_l (by first | omega | exact Nat.lt_trans (hB _ _) (by decide) | exact hB _ _)) ?_
  refine ev_lcS_ne (tgt := 899) dL_kept_832 dL_kept_833 (by decide) (by rw [sInState_sum hI.1]) ?_
  exact (kept_836 hO hI hT _).sub1 ⟨(by repeat (first | with_reducible exact lk_h | ((with_reducible refine lk_e ?_); rfl) | refine lk_m ?_ rfl)), (by repeat (first | with_reducible exact lk_h | ((with_reducible refine lk_e ?_); rfl) | refine lk_m ?_ rfl)), (by repeat (first | with_reducible exact lk_h | ((with_reducible refine lk_e ?_); rfl) | refine lk_m ?_ rfl)), trivial⟩ (eff_id rfl)
