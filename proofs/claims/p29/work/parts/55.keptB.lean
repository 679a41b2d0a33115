set_option maxHeartbeats 4000000 in
set_option maxRecDepth 20000 in
theorem kept_673 {h : eH} {b ℓ c T : Nat} {σ : St} {x : Nat → Nat} {τ τs : Nat → St} {us : Nat → Nat} (hO : eNB h b σ x ℓ c τ us τs) (hI : gI σ T) (hT : T < 2 ^ 20) : ∀ (n_0 k : Nat), k ≤ sAl σ → eV mL_kept 673 [(0, .ref b), (1, .int (nI (σ 0 1))), (2, .int (nI (1))), (3, .long (lN (sSum (σ 10) (σ 0 1)))), (5, .long (lN (sSum (σ 4) (σ 0 0)))), (7, .long (lN (sSum (σ 5) (σ 0 0)))), (9, .long (lN (sSum (sGiven σ) (σ 0 0)))), (11, .long (lN (sSum (σ 13) (σ 0 1)))), (13, .int (nI (sAl σ))), (14, .long (lN (sSum (sLives σ) (σ 0 0)))), (16, .long (lN (sSum (sStuckG σ) (σ 0 0)))), (18, .long (lN (sMax (σ 4) (σ 0 0)))), (20, .long (lN (sSum (sInState σ) 5))), (22, .int (nI (k)))] [] (h, n_0, 0, 0) (.inl (some (.int (nI 1))), (· = h), none) 0 0 := by
  have hK := hI.ok hT
  have hB := hK.1
  have hP := hK.2.1
  have hN := hK.2.2.1
  have hA := sAl_b hI hT
  intro n_0 k hk
  have H_673 : ∀ (d_673 : Nat) (n_0 k : Nat), d_673 = sAl σ - k → (k ≤ sAl σ) → eV mL_kept 673 [(0, .ref b), (1, .int (nI (σ 0 1))), (2, .int (nI (1))), (3, .long (lN (sSum (σ 10) (σ 0 1)))), (5, .long (lN (sSum (σ 4) (σ 0 0)))), (7, .long (lN (sSum (σ 5) (σ 0 0)))), (9, .long (lN (sSum (sGiven σ) (σ 0 0)))), (11, .long (lN (sSum (σ 13) (σ 0 1)))), (13, .int (nI (sAl σ))), (14, .long (lN (sSum (sLives σ) (σ 0 0)))), (16, .long (lN (sSum (sStuckG σ) (σ 0 0)))), (18, .long (lN (sMax (σ 4) (σ 0 0)))), (20, .long (lN (sSum (sInState σ) 5))), (22, .int (nI (k)))] [] (h, n_0, 0, 0) (.inl (some (.int (nI 1))), (· = h), none) 0 0 := by
    intro d_673
    induction d_673 using Nat.strongRecOn with
    | _ d_673 ih_673 =>
    intro n_0 k hd_673 hk
    refine ev_iload (i := 22) dL_kept_673 (by repeat (first | with_reducible exact lk_h | ((with_reducible refine lk_e ?_); rfl) | refine lk_m ?_ rfl)) ?_
    refine ev_iload (i := 13) dL_kept_675 (by repeat (first | with_reducible exact lk_h | ((with_reducible refine lk_e ?_); rfl) | refine lk_m ?_ rfl)) ?_
    refine ev_icmp_geN (tgt := 755) dL_kept_677 (by decide) (by first | omega | exact Nat.lt_trans (hB _ _) (by decide) | exact hB _ _) (by first | omega | exact Nat.lt_trans (hB _ _) (by decide) | exact hB _ _) (fun c_677 => ?_) (fun c_677 => ?_)
    · exact (kept_755 hO hI hT _).sub1 ⟨(by repeat (first | with_reducible exact lk_h | ((with_reducible refine lk_e ?_); rfl) | refine lk_m ?_ rfl)), (by repeat (first | with_reducible exact lk_h | ((with_reducible refine lk_e ?_); rfl) | refine lk_m ?_ rfl)), (by repeat (first | with_reducible exact lk_h | ((with_reducible refine lk_e ?_); rfl) | refine lk_m ?_ rfl)), (by repeat (first | with_reducible exact lk_h | ((with_reducible refine lk_e ?_); rfl) | refine lk_m ?_ rfl)), (by repeat (first | with_reducible exact lk_h | ((with_reducible refine lk_e ?_); rfl) | refine lk_m ?_ rfl)), (by repeat (first | with_reducible exact lk_h | ((with_reducible refine lk_e ?_); rfl) | refine lk_m ?_ rfl)), (by repeat (first | with_reducible exact lk_h | ((with_reducible refine lk_e ?_); rfl) | refine lk_m ?_ rfl)), (by repeat (first | with_reducible exact lk_h | ((with_reducible refine lk_e ?_); rfl) | refine lk_m ?_ rfl)), (by repeat (first | with_reducible exact lk_h | ((with_reducible refine lk_e ?_); rfl) | refine lk_m ?_ rfl)), (by repeat (first | with_reducible exact lk_h | ((with_reducible refine lk_e ?_); rfl) | refine lk_m ?_ rfl)), (by repeat (first | with_reducible exact lk_h | ((with_reducible refine lk_e ?_); rfl) | refine lk_m ?_ rfl)), (by repeat (first | with_reducible exact lk_h | ((with_reducible refine lk_e ?_); rfl) | refine lk_m ?_ rfl)), (by repeat (first | with_reducible exact lk_h | ((with_reducible refine lk_e ?_); rfl) | refine lk_m ?_ rfl)), trivial⟩ (eff_id rfl)
    · refine ev_iload_n (i := 2) dL_kept_680 rfl (by repeat (first | with_reducible exact lk_h | ((with_reducible refine lk_e ?_); rfl) | refine lk_m ?_ rfl)) ?_
      refine ev_if_eqN (tgt := 755) dL_kept_681 (by decide) (by decide) (fun c => absurd c (by decide)) (fun _ => ?_)
      obtain ⟨nn, hr, hr1, hr2, hr3⟩ := sRank_at (σ := σ) (r := k) (by omega)
      have hr4 : σ 12 nn ≤ 1 := of_decide_eq_true hr2
      have hm1 := (hI.1.2.2.2.2.1 nn hr1).2.2.1
      refine ev_aload_n (i := 0) dL_kept_684 rfl (by repeat (first | with_reducible exact lk_h | ((with_reducible refine lk_e ?_); rfl) | refine lk_m ?_ rfl)) ?_
      refine ev_iload (i := 22) dL_kept_685 (by repeat (first | with_reducible exact lk_h | ((with_reducible refine lk_e ?_); rfl) | refine lk_m ?_ rfl)) ?_
      refine ev_roW dL_kept_687 (a_rollS hO hI hT (by omega) hr) lk_L_116 ⟨Nat.le_of_ble_eq_true rfl, Nat.le_of_ble_eq_true rfl⟩ rfl (Nat.le_of_ble_eq_true rfl) ⟨by first | exact Nat.le_of_ble_eq_true rfl | omega, by first | exact Nat.le_of_ble_eq_true rfl | omega⟩ (fun n_687 => ?_)
      refine ev_l2i dL_kept_690 (lN_i _) ?_
      refine ev_istore (i := 23) dL_kept_691 (Nat.le_of_ble_eq_true rfl) ?_
      refine ev_iload (i := 23) dL_kept_693 (by repeat (first | with_reducible exact lk_h | ((with_reducible refine lk_e ?_); rfl) | refine lk_m ?_ rfl)) ?_
      refine ev_if_ltN (tgt := 747) dL_kept_695 (by decide) (by first | omega | exact Nat.lt_trans (hB _ _) (by decide) | exact hB _ _) ?_
      refine ev_aload_n (i := 0) dL_kept_698 rfl (by repeat (first | with_reducible exact lk_h | ((with_reducible refine lk_e ?_); rfl) | refine lk_m ?_ rfl)) ?_
      refine ev_iload (i := 23) dL_kept_699 (by repeat (first | with_reducible exact lk_h | ((with_reducible refine lk_e ?_); rfl) | refine lk_m ?_ rfl)) ?_
      refine ev_bipush (v := nI 6) dL_kept_701 rfl ?_
      refine ev_roW dL_kept_703 (a_nameOf (p := nn) (w := 6) (v := σ 12 nn) hO hI hT hr1 (by decide) (rfl)) lk_L_108 ⟨Nat.le_of_ble_eq_true rfl, Nat.le_of_ble_eq_true rfl⟩ rfl (Nat.le_of_ble_eq_true rfl) ⟨by first | exact Nat.le_of_ble_eq_true rfl | omega, by first | exact Nat.le_of_ble_eq_true rfl | omega⟩ (fun n_703 => ?_)
      refine ev_ldc2 (v := lN 2) dL_kept_706 wq_L_155 ?_
      refine ev_lcN_ge (tgt := 747) dL_kept_709 dL_kept_710 (by decide) (by first | omega | exact Nat.lt_trans (hB _ _) (by decide) | exact hB _ _) (by first | omega | exact Nat.lt_trans (hB _ _) (by decide) | exact hB _ _) (fun c_709 => absurd c_709 (by omega)) (fun c_709 => ?_)
      refine ev_iload (i := 22) dL_kept_713 (by repeat (first | with_reducible exact lk_h | ((with_reducible refine lk_e ?_); rfl) | refine lk_m ?_ rfl)) ?_
      refine ev_if_eqN (tgt := 743) dL_kept_715 (by decide) (by first | omega | exact Nat.lt_trans (hB _ _) (by decide) | exact hB _ _) (fun c_715 => ?_) (fun c_715 => ?_)
      · refine ev_iconst (v := nI 1) dL_kept_743 rfl ?_
        refine ev_goto (tgt := 748) dL_kept_744 (by decide) ?_
        refine ev_istore_n (i := 2) dL_kept_748 rfl (Nat.le_of_ble_eq_true rfl) ?_
        refine ev_iincN dL_kept_749 (by repeat (first | with_reducible exact lk_h | ((with_reducible refine lk_e ?_); rfl) | refine lk_m ?_ rfl)) (Nat.le_of_ble_eq_true rfl) ?_
        refine ev_goto (tgt := 673) dL_kept_752 (by decide) ?_
        exact (ih_673 _ (by omega) _ (k + 1) rfl (by omega)).sub1 ⟨(by repeat (first | with_reducible exact lk_h | ((with_reducible refine lk_e ?_); rfl) | refine lk_m ?_ rfl)), (by repeat (first | with_reducible exact lk_h | ((with_reducible refine lk_e ?_); rfl) | refine lk_m ?_ rfl)), (by repeat (first | with_reducible exact lk_h | ((with_reducible refine lk_e ?_); rfl) | refine lk_m ?_ rfl)), (by repeat (first | with_reducible exact lk_h | ((with_reducible refine lk_e ?_); rfl) | refine lk_m ?_ rfl)), (by repeat (first | with_reducible exact lk_h | ((with_reducible refine lk_e ?_); rfl) | refine lk_m ?_ rfl)), (by repeat (first | with_reducible exact lk_h | ((with_reducible refine lk_e ?_); rfl) | refine lk_m ?_ rfl)), (by repeat (first | with_reducible exact lk_h | ((with_reducible refine lk_e ?_); rfl) | refine lk_m ?_ rfl)), (by repeat (first | with_reducible exact lk_h | ((with_reducible refine lk_e ?_); rfl) | refine lk_m ?_ rfl)), (by repeat (first | with_reducible exact lk_h | ((with_reducible refine lk_e ?_); rfl) | refine lk_m ?_ rfl)), (by repeat (first | with_reducible exact lk_h | ((with_reducible refine lk_e ?_); rfl) | refine lk_m ?_ rfl)), (by repeat (first | with_reducible exact lk_h | ((with_reducible refine lk_e ?_); rfl) | refine lk_m ?_ rfl)), (by repeat (first | with_reducible exact lk_h | ((with_reducible refine lk_e ?_); rfl) | refine lk_m ?_ rfl)), (by repeat (first | with_reducible exact lk_h | ((with_reducible refine lk_e ?_); rfl) | refine lk_m ?_ rfl)), (by repeat (first | with_reducible exact lk_h | ((with_reducible refine lk_e ?_); rfl) | refine lk_m ?_ rfl)), trivial⟩ (eff_id rfl)
      · obtain ⟨mm, hs, hs1, hs2, hs3⟩ := sRank_at (σ := σ) (r := k - 1) (by omega)
        have hm2 := (hI.1.2.2.2.2.1 mm hs1).2.2.1
        have hso := sRank_sort hI.1 (r := k - 1) hs1 hr1 hr2 hs3 (by omega)
        have hb1 := sLet_lt (σ 6 mm) (σ 7 mm) 0
        have hb2 := sLet_lt (σ 6 nn) (σ 7 nn) 0
        refine ev_aload_n (i := 0) dL_kept_718 rfl (by repeat (first | with_reducible exact lk_h | ((with_reducible refine lk_e ?_); rfl) | refine lk_m ?_ rfl)) ?_
        refine ev_aload_n (i := 0) dL_kept_719 rfl (by repeat (first | with_reducible exact lk_h | ((with_reducible refine lk_e ?_); rfl) | refine lk_m ?_ rfl)) ?_
        refine ev_iload (i := 22) dL_kept_720 (by repeat (first | with_reducible exact lk_h | ((with_reducible refine lk_e ?_); rfl) | refine lk_m ?_ rfl)) ?_
        refine ev_iconst (v := nI 1) dL_kept_722 rfl ?_
        refine ev_isubN dL_kept_723 (by first | assumption | omega) ?_
        refine ev_roW dL_kept_724 (a_rollS hO hI hT (by omega) hs) lk_L_116 ⟨Nat.le_of_ble_eq_true rfl, Nat.le_of_ble_eq_true rfl⟩ rfl (Nat.le_of_ble_eq_true rfl) ⟨by first | exact Nat.le_of_ble_eq_true rfl | omega, by first | exact Nat.le_of_ble_eq_true rfl | omega⟩ (fun n_724 => ?_)
        refine ev_l2i dL_kept_727 (lN_i _) ?_
        refine ev_iconst (v := nI 0) dL_kept_728 rfl ?_
        refine ev_roW dL_kept_729 (a_letterS hO hI hT hs1 (by decide) (if_pos (by omega))) lk_L_114 ⟨Nat.le_of_ble_eq_true rfl, Nat.le_of_ble_eq_true rfl⟩ rfl (Nat.le_of_ble_eq_true rfl) ⟨by first | exact Nat.le_of_ble_eq_true rfl | omega, by first | exact Nat.le_of_ble_eq_true rfl | omega⟩ (fun n_729 => ?_)
        refine ev_aload_n (i := 0) dL_kept_732 rfl (by repeat (first | with_reducible exact lk_h | ((with_reducible refine lk_e ?_); rfl) | refine lk_m ?_ rfl)) ?_
        refine ev_iload (i := 23) dL_kept_733 (by repeat (first | with_reducible exact lk_h | ((with_reducible refine lk_e ?_); rfl) | refine lk_m ?_ rfl)) ?_
        refine ev_iconst (v := nI 0) dL_kept_735 rfl ?_
        refine ev_roW dL_kept_736 (a_letterS hO hI hT hr1 (by decide) (if_pos (by omega))) lk_L_114 ⟨Nat.le_of_ble_eq_true rfl, Nat.le_of_ble_eq_true rfl⟩ rfl (Nat.le_of_ble_eq_true rfl) ⟨by first | exact Nat.le_of_ble_eq_true rfl | omega, by first | exact Nat.le_of_ble_eq_true rfl | omega⟩ (fun n_736 => ?_)
        refine ev_lcN_gt (tgt := 747) dL_kept_739 dL_kept_740 (by decide) (by first | omega | exact Nat.lt_trans (hB _ _) (by decide) | exact hB _ _) (by first | omega | exact Nat.lt_trans (hB _ _) (by decide) | exact hB _ _) (fun c_739 => absurd c_739 (by omega)) (fun c_739 => ?_)
        refine ev_iconst (v := nI 1) dL_kept_743 rfl ?_
        refine ev_goto (tgt := 748) dL_kept_744 (by decide) ?_
        refine ev_istore_n (i := 2) dL_kept_748 rfl (Nat.le_of_ble_eq_true rfl) ?_
        refine ev_iincN dL_kept_749 (by repeat (first | with_reducible exact lk_h | ((with_reducible refine lk_e ?_); rfl) | refine lk_m ?_ rfl)) (Nat.le_of_ble_eq_true rfl) ?_
        refine ev_goto (tgt := 673) dL_kept_752 (by decide) ?_
        exact (ih_673 _ (by omega) _ (k + 1) rfl (by omega)).sub1 ⟨(by repeat (first | with_reducible exact lk_h | ((with_reducible refine lk_e ?_); rfl) | refine lk_m ?_ rfl)), (by repeat (first | with_reducible exact lk_h | ((with_reducible refine lk_e ?_); rfl) | refine lk_m ?_ rfl)), (by repeat (first | with_reducible exact lk_h | ((with_reducible refine lk_e ?_); rfl) | refine lk_m ?_ rfl)), (by repeat (first | with_reducible exact lk_h | ((with_reducible refine lk_e ?_); rfl) | refine lk_m ?_ rfl)), (by repeat (first | with_reducible exact lk_h | ((with_reducible refine lk_e ?_); rfl) | refine lk_m ?_ rfl)), (by repeat (first | with_reducible exact lk_h | ((with_reducible refine lk_e ?_); rfl) | refine lk_m ?_ rfl)), (by repeat (first | with_reducible exact lk_h | ((with_reducible refine lk_e ?_); rfl) | refine lk_m ?_ rfl)), (by repeat (first | with_reducible exact lk_h | ((with_reducible refine lk_e ?_); rfl) | refine lk_m ?_ rfl)), (by repeat (first | with_reducible exact lk_h | ((with_reducible refine lk_e ?_); rfl) | refine lk_m ?_ rfl)), (by repeat (first | with_reducible exact lk_h | ((with_reducible refine lk_e ?_); rfl) | refine lk_m ?_ rfl)), (by repeat (first | with_reducible exact lk_h | ((with_reducible refine lk_e ?_); rfl) | refine lk_m ?_ rfl)), (by repeat (first | with_reducible exact lk_h | ((with_reducible refine lk_e ?_); rfl) | refine lk_m ?_ rfl)), (by repeat (first | with_reducible exact lk_h | ((with_reducible refine lk_e ?_); rfl) | refine lk_m ?_ rfl)), (by repeat (first | with_reducible exact lk_h | ((with_reducible refine lk_e ?_); rfl) | refine lk_m ?_ rfl)), trivial⟩ (eff_id rfl)
  exact (H_673 _ n_0 k rfl (by exact hk)).sub1 ⟨(by repeat (first | with_reducible exact lk_h | ((with_reducible refine lk_e ?_); rfl) | refine lk_m ?_ rfl)), (by repeat (first | with_reducible exact lk_h | ((with_reducible refine lk_e ?_); rfl) | refine lk_m ?_ rfl)), (by repeat (first | with_reducible exact lk_h | ((with_reducible refine lk_e ?_); rfl) | refine lk_m ?_ rfl)), (by repeat (first | with_reducible exact lk_h | ((with_reducible refine lk_e ?_); rfl) | refine lk_m ?_ rfl)), (by repeat (first | with_reducible exact lk_h | ((with_reducible refine lk_e ?_); rfl) | refine lk_m ?_ rfl)), (by repeat (first | with_reducible exact lk_h | ((with_reducible refine lk_e ?_); rfl) | refine lk_m ?_ rfl)), (by repeat (first | with_reducible exact lk_h | ((with_reducible refine lk_e ?_); rfl) | refine lk_m ?_ rfl)), (by repeat (first | with_reducible exact lk_h | ((with_reducible refine lk_e ?_); rfl) | refine lk_m ?_ rfl)), (by repeat (first | with_reducible exact lk_h | ((with_reducible refine lk_e ?_); rfl) | refine lk_m ?_ rfl)), (by repeat (first | with_reducible exact lk_h | ((with_reducible refine lk_e ?_); rfl) | refine lk_m ?_ rfl)), (by repeat (first | with_reducible exact lk_h | ((with_reducible refine lk_e ?_); rfl) | refine lk_m ?_ rfl)), (by repeat (first | with_reducible exact lk_h | ((with_reducible refine lk_e ?_); rfl) | refine lk_m ?_ rfl)), (by repeat (first | with_reducible exact lk_h | ((with_reducible refine lk_e ?_); rfl) | refine lk_m ?_ rfl)), (by repeat (first | with_reducible exact lk_h | ((with_reducible refine lk_e ?_); rfl) | refine lk_m ?_ rfl)), trivial⟩ (eff_id rfl)
set_option maxHeartbeats 4000000 in
set_option maxRecDepth 20000 in
theorem kept_645 {h : eH} {b ℓ c T : Nat} {σ : St} {x : Nat → Nat} {τ τs : Nat → St} {us : Nat → Nat} (hO : eNB h b σ x ℓ c τ us τs) (hI : gI σ T) (hT : T < 2 ^ 20) : ∀ (n_0 k : Nat), k ≤ 5 → eV mL_kept 645 [(0, .ref b), (1, .int (nI (σ 0 1))), (2, .int (nI (1))), (3, .long (lN (sSum (σ 10) (σ 0 1)))), (5, .long (lN (sSum (σ 4) (σ 0 0)))), (7, .long (lN (sSum (σ 5) (σ 0 0)))), (9, .long (lN (sSum (sGiven σ) (σ 0 0)))), (11, .long (lN (sSum (σ 13) (σ 0 1)))), (13, .int (nI (sAl σ))), (14, .long (lN (sSum (sLives σ) (σ 0 0)))), (16, .long (lN (sSum (sStuckG σ) (σ 0 0)))), (18, .long (lN (sMax (σ 4) (σ 0 0)))), (20, .long (lN (sSum (sInState σ) k))), (22, .int (nI (k)))] [] (h, n_0, 0, 0) (.inl (some (.int (nI 1))), (· = h), none) 0 0 := by
  have hK := hI.ok hT
  have hB := hK.1
  have hP := hK.2.1
  have hN := hK.2.2.1
  have hA := sAl_b hI hT
  intro n_0 k hk
  have H_645 : ∀ (d_645 : Nat) (n_0 k : Nat), d_645 = 5 - k → (k ≤ 5) → eV mL_kept 645 [(0, .ref b), (1, .int (nI (σ 0 1))), (2, .int (nI (1))), (3, .long (lN (sSum (σ 10) (σ 0 1)))), (5, .long (lN (sSum (σ 4) (σ 0 0)))), (7, .long (lN (sSum (σ 5) (σ 0 0)))), (9, .long (lN (sSum (sGiven σ) (σ 0 0)))), (11, .long (lN (sSum (σ 13) (σ 0 1)))), (13, .int (nI (sAl σ))), (14, .long (lN (sSum (sLives σ) (σ 0 0)))), (16, .long (lN (sSum (sStuckG σ) (σ 0 0)))), (18, .long (lN (sMax (σ 4) (σ 0 0)))), (20, .long (lN (sSum (sInState σ) k))), (22, .int (nI (k)))] [] (h, n_0, 0, 0) (.inl (some (.int (nI 1))), (· = h), none) 0 0 := by
    intro d_645
    induction d_645 using Nat.strongRecOn with
    | _ d_645 ih_645 =>
    intro n_0 k hd_645 hk
    refine ev_iload (i := 22) dL_kept_645 (by repeat (first | with_reducible exact lk_h | ((with_reducible refine lk_e ?_); rfl) | refine lk_m ?_ rfl)) ?_
    refine ev_iconst (v := nI 5) dL_kept_647 rfl ?_
    refine ev_icmp_geN (tgt := 670) dL_kept_648 (by decide) (by first | omega | exact Nat.lt_trans (hB _ _) (by decide) | exact hB _ _) (by first | omega | exact Nat.lt_trans (hB _ _) (by decide) | exact hB _ _) (fun c_648 => ?_) (fun c_648 => ?_)
    · have ek : k = 5 := by omega
      subst ek
      refine ev_iconst (v := nI 0) dL_kept_670 rfl ?_
      refine ev_istore (i := 22) dL_kept_671 (Nat.le_of_ble_eq_true rfl) ?_
      exact (kept_673 hO hI hT _ 0 (Nat.zero_le _)).sub1 ⟨(by repeat (first | with_reducible exact lk_h | ((with_reducible refine lk_e ?_); rfl) | refine lk_m ?_ rfl)), (by repeat (first | with_reducible exact lk_h | ((with_reducible refine lk_e ?_); rfl) | refine lk_m ?_ rfl)), (by repeat (first | with_reducible exact lk_h | ((with_reducible refine lk_e ?_); rfl) | refine lk_m ?_ rfl)), (by repeat (first | with_reducible exact lk_h | ((with_reducible refine lk_e ?_); rfl) | refine lk_m ?_ rfl)), (by repeat (first | with_reducible exact lk_h | ((with_reducible refine lk_e ?_); rfl) | refine lk_m ?_ rfl)), (by repeat (first | with_reducible exact lk_h | ((with_reducible refine lk_e ?_); rfl) | refine lk_m ?_ rfl)), (by repeat (first | with_reducible exact lk_h | ((with_reducible refine lk_e ?_); rfl) | refine lk_m ?_ rfl)), (by repeat (first | with_reducible exact lk_h | ((with_reducible refine lk_e ?_); rfl) | refine lk_m ?_ rfl)), (by repeat (first | with_reducible exact lk_h | ((with_reducible refine lk_e ?_); rfl) | refine lk_m ?_ rfl)), (by repeat (first | with_reducible exact lk_h | ((with_reducible refine lk_e ?_); rfl) | refine lk_m ?_ rfl)), (by repeat (first | with_reducible exact lk_h | ((with_reducible refine lk_e ?_); rfl) | refine lk_m ?_ rfl)), (by repeat (first | with_reducible exact lk_h | ((with_reducible refine lk_e ?_); rfl) | refine lk_m ?_ rfl)), (by repeat (first | with_reducible exact lk_h | ((with_reducible refine lk_e ?_); rfl) | refine lk_m ?_ rfl)), (by repeat (first | with_reducible exact lk_h | ((with_reducible refine lk_e ?_); rfl) | refine lk_m ?_ rfl)), trivial⟩ (eff_id rfl)
    · refine ev_lload (i := 20) dL_kept_651 (by repeat (first | with_reducible exact lk_h | ((with_reducible refine lk_e ?_); rfl) | refine lk_m ?_ rfl)) ?_
      refine ev_aload_n (i := 0) dL_kept_653 rfl (by repeat (first | with_reducible exact lk_h | ((with_reducible refine lk_e ?_); rfl) | refine lk_m ?_ rfl)) ?_
      refine ev_iconst (v := nI 2) dL_kept_654 rfl ?_
      refine ev_iload (i := 22) dL_kept_655 (by repeat (first | with_reducible exact lk_h | ((with_reducible refine lk_e ?_); rfl) | refine lk_m ?_ rfl)) ?_
      refine ev_iaddN dL_kept_657 ?_
      refine ev_roW dL_kept_658 (a_about (w := 2 + k) (v := sInState σ k) hO hI hT (by first | decide | omega) (by rw [sAbout, if_neg (by omega), if_neg (by omega), if_pos (by omega), Nat.add_sub_cancel_left])) lk_L_100 ⟨Nat.le_of_ble_eq_true rfl, Nat.le_of_ble_eq_true rfl⟩ rfl (Nat.le_of_ble_eq_true rfl) ⟨by first | exact Nat.le_of_ble_eq_true rfl | omega, by first | exact Nat.le_of_ble_eq_true rfl | omega⟩ (fun n_658 => ?_)
      refine ev_ladd dL_kept_661 ?_
      rw [lN_add]
      refine ev_lstore (i := 20) dL_kept_662 (Nat.le_of_ble_eq_true rfl) ?_
      refine ev_iincN dL_kept_664 (by repeat (first | with_reducible exact lk_h | ((with_reducible refine lk_e ?_); rfl) | refine lk_m ?_ rfl)) (Nat.le_of_ble_eq_true rfl) ?_
      refine ev_goto (tgt := 645) dL_kept_667 (by decide) ?_
      exact (ih_645 _ (by omega) _ (k + 1) rfl (by omega)).sub1 ⟨(by repeat (first | with_reducible exact lk_h | ((with_reducible refine lk_e ?_); rfl) | refine lk_m ?_ rfl)), (by repeat (first | with_reducible exact lk_h | ((with_reducible refine lk_e ?_); rfl) | refine lk_m ?_ rfl)), (by repeat (first | with_reducible exact lk_h | ((with_reducible refine lk_e ?_); rfl) | refine lk_m ?_ rfl)), (by repeat (first | with_reducible exact lk_h | ((with_reducible refine lk_e ?_); rfl) | refine lk_m ?_ rfl)), (by repeat (first | with_reducible exact lk_h | ((with_reducible refine lk_e ?_); rfl) | refine lk_m ?_ rfl)), (by repeat (first | with_reducible exact lk_h | ((with_reducible refine lk_e ?_); rfl) | refine lk_m ?_ rfl)), (by repeat (first | with_reducible exact lk_h | ((with_reducible refine lk_e ?_); rfl) | refine lk_m ?_ rfl)), (by repeat (first | with_reducible exact lk_h | ((with_reducible refine lk_e ?_); rfl) | refine lk_m ?_ rfl)), (by repeat (first | with_reducible exact lk_h | ((with_reducible refine lk_e ?_); rfl) | refine lk_m ?_ rfl)), (by repeat (first | with_reducible exact lk_h | ((with_reducible refine lk_e ?_); rfl) | refine lk_m ?_ rfl)), (by repeat (first | with_reducible exact lk_h | ((with_reducible refine lk_e ?_); rfl) | refine lk_m ?_ rfl)), (by repeat (first | with_reducible exact lk_h | ((with_reducible refine lk_e ?_); rfl) | refine lk_m ?_ rfl)), (by repeat (first | with_reducible exact lk_h | ((with_reducible refine lk_e ?_); rfl) | refine lk_m ?_ rfl)), (by repeat (first | with_reducible exact lk_h | ((with_reducible refine lk_e ?_); rfl) | refine lk_m ?_ rfl)), trivial⟩ (eff_id rfl)
  exact (H_645 _ n_0 k rfl (by exact hk)).sub1 ⟨(by repeat (first | with_reducible exact lk_h | ((with_reducible refine lk_e ?_); rfl) | refine lk_m ?_ rfl)), (by repeat (first | with_reducible exact lk_h | ((with_reducible refine lk_e ?_); rfl) | refine lk_m ?_ rfl)), (by repeat (first | with_reducible exact lk_h | ((with_reducible refine lk_e ?_); rfl) | refine lk_m ?_ rfl)), (by repeat (first | with_reducible exact lk_h | ((with_reducible refine lk_e ?_); rfl) | refine lk_m ?_ rfl)), (by repeat (first | with_reducible exact lk_h | ((with_reducible refine lk_e ?_); rfl) | refine lk_m ?_ rfl)), (by repeat (first | with_reducible exact lk_h | ((with_reducible refine lk_e ?_); rfl) | refine lk_m ?_ rfl)), (by repeat (first | with_reducible exact lk_h | ((with_reducible refine lk_e ?_); rfl) | refine lk_m ?_ rfl)), (by repeat (first | with_reducible exact lk_h | ((with_reducible refine lk_e ?_); rfl) | refine lk_m ?_ rfl)), (by repeat (first | with_reducible exact lk_h | ((with_reducible refine lk_e ?_); rfl) | refine lk_m ?_ rfl)), (by repeat (first | with_reducible exact lk_h | ((with_reducible refine lk_e ?_); rfl) | refine lk_m ?_ rfl)), (by repeat (first | with_reducible exact lk_h | ((with_reducible refine lk_e ?_); rfl) | refine lk_m ?_ rfl)), (by repeat (first | with_reducible exact lk_h | ((with_reducible refine lk_e ?_); rfl) | refine lk_m ?_ rfl)), (by repeat (first | with_reducible exact lk_h | ((with_reducible refine lk_e ?_); rfl) | refine lk_m ?_ rfl)), (by repeat (first | with_reducible exact lk_h | ((with_reducible refine lk_e ?_); rfl) | refine lk_m ?_ rfl)), trivial⟩ (eff_id rfl)
theorem sMax_b {f : Nat → Nat} {B : Nat} (h : ∀ j, f j < B) : ∀ n, sMax f n < B
  | 0 => Nat.lt_of_le_of_lt (Nat.zero_le _) (h 0)
  | n + 1 => by
    rw [sMax]
    split
    · exact h n
    · exact sMax_b h n
set_option maxHeartbeats 4000000 in
set_option maxRecDepth 20000 in
theorem kept_467 {h : eH} {b ℓ c T : Nat} {σ : St} {x : Nat → Nat} {τ τs : Nat → St} {us : Nat → Nat} (hO : eNB h b σ x ℓ c τ us τs) (hI : gI σ T) (hT : T < 2 ^ 20) : ∀ (n_0 p : Nat), p ≤ σ 0 0 → eV mL_kept 467 [(0, .ref b), (1, .int (nI (σ 0 1))), (2, .int (nI (1))), (3, .long (lN (sSum (σ 10) (σ 0 1)))), (5, .long (lN (sSum (σ 4) p))), (7, .long (lN (sSum (σ 5) p))), (9, .long (lN (sSum (sGiven σ) p))), (11, .long (lN (sSum (σ 13) (σ 0 1)))), (13, .int (nI (sAl σ))), (14, .long (lN (sSum (sLives σ) p))), (16, .long (lN (sSum (sStuckG σ) p))), (18, .long (lN (sMax (σ 4) p))), (20, .int (nI (p)))] [] (h, n_0, 0, 0) (.inl (some (.int (nI 1))), (· = h), none) 0 0 := by
  have hK := hI.ok hT
  have hB := hK.1
  have hP := hK.2.1
  have hN := hK.2.2.1
  have hA := sAl_b hI hT
  intro n_0 p hp
  have H_467 : ∀ (d_467 : Nat) (n_0 p : Nat), d_467 = σ 0 0 - p → (p ≤ σ 0 0) → eV mL_kept 467 [(0, .ref b), (1, .int (nI (σ 0 1))), (2, .int (nI (1))), (3, .long (lN (sSum (σ 10) (σ 0 1)))), (5, .long (lN (sSum (σ 4) p))), (7, .long (lN (sSum (σ 5) p))), (9, .long (lN (sSum (sGiven σ) p))), (11, .long (lN (sSum (σ 13) (σ 0 1)))), (13, .int (nI (sAl σ))), (14, .long (lN (sSum (sLives σ) p))), (16, .long (lN (sSum (sStuckG σ) p))), (18, .long (lN (sMax (σ 4) p))), (20, .int (nI (p)))] [] (h, n_0, 0, 0) (.inl (some (.int (nI 1))), (· = h), none) 0 0 := by
    intro d_467
    induction d_467 using Nat.strongRecOn with
    | _ d_467 ih_467 =>
    intro n_0 p hd_467 hp
    refine ev_iload (i := 20) dL_kept_467 (by repeat (first | with_reducible exact lk_h | ((with_reducible refine lk_e ?_); rfl) | refine lk_m ?_ rfl)) ?_
    refine ev_i2l dL_kept_469 (nI_l (by first | omega | exact Nat.lt_trans (hB _ _) (by decide) | exact hB _ _)) ?_
    refine ev_aload_n (i := 0) dL_kept_470 rfl (by repeat (first | with_reducible exact lk_h | ((with_reducible refine lk_e ?_); rfl) | refine lk_m ?_ rfl)) ?_
    refine ev_iconst (v := nI 0) dL_kept_471 rfl ?_
    refine ev_roW dL_kept_472 (a_about (w := 0) (v := σ 0 0) hO hI hT (by first | decide | omega) (rfl)) lk_L_100 ⟨Nat.le_of_ble_eq_true rfl, Nat.le_of_ble_eq_true rfl⟩ rfl (Nat.le_of_ble_eq_true rfl) ⟨by first | exact Nat.le_of_ble_eq_true rfl | omega, by first | exact Nat.le_of_ble_eq_true rfl | omega⟩ (fun n_472 => ?_)
    refine ev_lcN_ge (tgt := 639) dL_kept_475 dL_kept_476 (by decide) (by first | omega | exact Nat.lt_trans (hB _ _) (by decide) | exact hB _ _) (by first | omega | exact Nat.lt_trans (hB _ _) (by decide) | exact hB _ _) (fun c_475 => ?_) (fun c_475 => ?_)
    · have ep : p = σ 0 0 := by omega
      subst ep
      refine ev_lconst (v := lN 0) dL_kept_639 rfl ?_
      refine ev_lstore (i := 20) dL_kept_640 (Nat.le_of_ble_eq_true rfl) ?_
      refine ev_iconst (v := nI 0) dL_kept_642 rfl ?_
      refine ev_istore (i := 22) dL_kept_643 (Nat.le_of_ble_eq_true rfl) ?_
      exact (kept_645 hO hI hT _ 0 (Nat.zero_le _)).sub1 ⟨(by repeat (first | with_reducible exact lk_h | ((with_reducible refine lk_e ?_); rfl) | refine lk_m ?_ rfl)), (by repeat (first | with_reducible exact lk_h | ((with_reducible refine lk_e ?_); rfl) | refine lk_m ?_ rfl)), (by repeat (first | with_reducible exact lk_h | ((with_reducible refine lk_e ?_); rfl) | refine lk_m ?_ rfl)), (by repeat (first | with_reducible exact lk_h | ((with_reducible refine lk_e ?_); rfl) | refine lk_m ?_ rfl)), (by repeat (first | with_reducible exact lk_h | ((with_reducible refine lk_e ?_); rfl) | refine lk_m ?_ rfl)), (by repeat (first | with_reducible exact lk_h | ((with_reducible refine lk_e ?_); rfl) | refine lk_m ?_ rfl)), (by repeat (first | with_reducible exact lk_h | ((with_reducible refine lk_e ?_); rfl) | refine lk_m ?_ rfl)), (by repeat (first | with_reducible exact lk_h | ((with_reducible refine lk_e ?_); rfl) | refine lk_m ?_ rfl)), (by repeat (first | with_reducible exact lk_h | ((with_reducible refine lk_e ?_); rfl) | refine lk_m ?_ rfl)), (by repeat (first | with_reducible exact lk_h | ((with_reducible refine lk_e ?_); rfl) | refine lk_m ?_ rfl)), (by repeat (first | with_reducible exact lk_h | ((with_reducible refine lk_e ?_); rfl) | refine lk_m ?_ rfl)), (by repeat (first | with_reducible exact lk_h | ((with_reducible refine lk_e ?_); rfl) | refine lk_m ?_ rfl)), (by repeat (first | with_reducible exact lk_h | ((with_reducible refine lk_e ?_); rfl) | refine lk_m ?_ rfl)), (by repeat (first | with_reducible exact lk_h | ((with_reducible refine lk_e ?_); rfl) | refine lk_m ?_ rfl)), trivial⟩ (eff_id rfl)
    · refine ev_iload_n (i := 2) dL_kept_479 rfl (by repeat (first | with_reducible exact lk_h | ((with_reducible refine lk_e ?_); rfl) | refine lk_m ?_ rfl)) ?_
      refine ev_if_eqN (tgt := 639) dL_kept_480 (by decide) (by decide) (fun c => absurd c (by decide)) (fun _ => ?_)
      have h3 := hI.2.2.2.1 p
      have hsl := sStuck_le σ p
      have hbl := sBro_lt (σ := σ) (p := p) c_475
      have hgb : sGiven σ p ≤ 40 := Nat.le_trans (cnt_le _ _) hN
      have hmx : sMax (σ 4) p < 2 ^ 31 := sMax_b (fun j => hB 4 j) p
      refine ev_aload_n (i := 0) dL_kept_483 rfl (by repeat (first | with_reducible exact lk_h | ((with_reducible refine lk_e ?_); rfl) | refine lk_m ?_ rfl)) ?_
      refine ev_iload (i := 20) dL_kept_484 (by repeat (first | with_reducible exact lk_h | ((with_reducible refine lk_e ?_); rfl) | refine lk_m ?_ rfl)) ?_
      refine ev_iconst (v := nI 3) dL_kept_486 rfl ?_
      refine ev_roW dL_kept_487 (a_personOf (p := p) (w := 3) (v := sLives σ p) hO hI hT c_475 (by decide) (rfl)) lk_L_105 ⟨Nat.le_of_ble_eq_true rfl, Nat.le_of_ble_eq_true rfl⟩ rfl (Nat.le_of_ble_eq_true rfl) ⟨by first | exact Nat.le_of_ble_eq_true rfl | omega, by first | exact Nat.le_of_ble_eq_true rfl | omega⟩ (fun n_487 => ?_)
      refine ev_lconst (v := lN 0) dL_kept_490 rfl ?_
      refine ev_ldc2 (v := lN 3) dL_kept_491 wq_L_167 ?_
      refine ev_roN dL_kept_494 (c_L_in (v := sLives σ p) (lo := 0) (hi := 3) (by omega) (by omega) (by omega) (by omega)) lk_L_163 ⟨Nat.le_of_ble_eq_true rfl, Nat.le_of_ble_eq_true rfl⟩ rfl (Nat.le_of_ble_eq_true rfl) ⟨by first | exact Nat.le_of_ble_eq_true rfl | omega, by first | exact Nat.le_of_ble_eq_true rfl | omega⟩ (fun n_494 => ?_)
      refine ev_if_eqN (tgt := 539) dL_kept_497 (by decide) (by decide) (fun c => absurd c (by decide)) (fun _ => ?_)
      refine ev_aload_n (i := 0) dL_kept_500 rfl (by repeat (first | with_reducible exact lk_h | ((with_reducible refine lk_e ?_); rfl) | refine lk_m ?_ rfl)) ?_
      refine ev_iload (i := 20) dL_kept_501 (by repeat (first | with_reducible exact lk_h | ((with_reducible refine lk_e ?_); rfl) | refine lk_m ?_ rfl)) ?_
      refine ev_bipush (v := nI 6) dL_kept_503 rfl ?_
      refine ev_roW dL_kept_505 (a_personOf (p := p) (w := 6) (v := sStuckG σ p) hO hI hT c_475 (by decide) (rfl)) lk_L_105 ⟨Nat.le_of_ble_eq_true rfl, Nat.le_of_ble_eq_true rfl⟩ rfl (Nat.le_of_ble_eq_true rfl) ⟨by first | exact Nat.le_of_ble_eq_true rfl | omega, by first | exact Nat.le_of_ble_eq_true rfl | omega⟩ (fun n_505 => ?_)
      refine ev_aload_n (i := 0) dL_kept_508 rfl (by repeat (first | with_reducible exact lk_h | ((with_reducible refine lk_e ?_); rfl) | refine lk_m ?_ rfl)) ?_
      refine ev_iload (i := 20) dL_kept_509 (by repeat (first | with_reducible exact lk_h | ((with_reducible refine lk_e ?_); rfl) | refine lk_m ?_ rfl)) ?_
      refine ev_iconst (v := nI 5) dL_kept_511 rfl ?_
      refine ev_roW dL_kept_512 (a_personOf (p := p) (w := 5) (v := sGiven σ p) hO hI hT c_475 (by decide) (rfl)) lk_L_105 ⟨Nat.le_of_ble_eq_true rfl, Nat.le_of_ble_eq_true rfl⟩ rfl (Nat.le_of_ble_eq_true rfl) ⟨by first | exact Nat.le_of_ble_eq_true rfl | omega, by first | exact Nat.le_of_ble_eq_true rfl | omega⟩ (fun n_512 => ?_)
      refine ev_lcN_gt (tgt := 539) dL_kept_515 dL_kept_516 (by decide) (by first | omega | exact Nat.lt_trans (hB _ _) (by decide) | exact hB _ _) (by first | omega | exact Nat.lt_trans (hB _ _) (by decide) | exact hB _ _) (fun c_515 => absurd c_515 (by omega)) (fun c_515 => ?_)
      refine ev_aload_n (i := 0) dL_kept_519 rfl (by repeat (first | with_reducible exact lk_h | ((with_reducible refine lk_e ?_); rfl) | refine lk_m ?_ rfl)) ?_
      refine ev_iload (i := 20) dL_kept_520 (by repeat (first | with_reducible exact lk_h | ((with_reducible refine lk_e ?_); rfl) | refine lk_m ?_ rfl)) ?_
      refine ev_iconst (v := nI 4) dL_kept_522 rfl ?_
      refine ev_roW dL_kept_523 (a_personOf (p := p) (w := 4) (v := sBrothers σ p) hO hI hT c_475 (by decide) (rfl)) lk_L_105 ⟨Nat.le_of_ble_eq_true rfl, Nat.le_of_ble_eq_true rfl⟩ rfl (Nat.le_of_ble_eq_true rfl) ⟨by first | exact Nat.le_of_ble_eq_true rfl | omega, by first | exact Nat.le_of_ble_eq_true rfl | omega⟩ (fun n_523 => ?_)
      refine ev_aload_n (i := 0) dL_kept_526 rfl (by repeat (first | with_reducible exact lk_h | ((with_reducible refine lk_e ?_); rfl) | refine lk_m ?_ rfl)) ?_
      refine ev_iconst (v := nI 0) dL_kept_527 rfl ?_
      refine ev_roW dL_kept_528 (a_about (w := 0) (v := σ 0 0) hO hI hT (by first | decide | omega) (rfl)) lk_L_100 ⟨Nat.le_of_ble_eq_true rfl, Nat.le_of_ble_eq_true rfl⟩ rfl (Nat.le_of_ble_eq_true rfl) ⟨by first | exact Nat.le_of_ble_eq_true rfl | omega, by first | exact Nat.le_of_ble_eq_true rfl | omega⟩ (fun n_528 => ?_)
      refine ev_lcN_ge (tgt := 539) dL_kept_531 dL_kept_532 (by decide) (by first | omega | exact Nat.lt_trans (hB _ _) (by decide) | exact hB _ _) (by first | omega | exact Nat.lt_trans (hB _ _) (by decide) | exact hB _ _) (fun c_531 => absurd c_531 (by omega)) (fun c_531 => ?_)
      refine ev_iconst (v := nI 1) dL_kept_535 rfl ?_
      refine ev_goto (tgt := 540) dL_kept_536 (by decide) ?_
      refine ev_istore_n (i := 2) dL_kept_540 rfl (Nat.le_of_ble_eq_true rfl) ?_
      refine ev_lload (i := 14) dL_kept_541 (by repeat (first | with_reducible exact lk_h | ((with_reducible refine lk_e ?_); rfl) | refine lk_m ?_ rfl)) ?_
      refine ev_aload_n (i := 0) dL_kept_543 rfl (by repeat (first | with_reducible exact lk_h | ((with_reducible refine lk_e ?_); rfl) | refine lk_m ?_ rfl)) ?_
      refine ev_iload (i := 20) dL_kept_544 (by repeat (first | with_reducible exact lk_h | ((with_reducible refine lk_e ?_); rfl) | refine lk_m ?_ rfl)) ?_
      refine ev_iconst (v := nI 3) dL_kept_546 rfl ?_
      refine ev_roW dL_kept_547 (a_personOf (p := p) (w := 3) (v := sLives σ p) hO hI hT c_475 (by decide) (rfl)) lk_L_105 ⟨Nat.le_of_ble_eq_true rfl, Nat.le_of_ble_eq_true rfl⟩ rfl (Nat.le_of_ble_eq_true rfl) ⟨by first | exact Nat.le_of_ble_eq_true rfl | omega, by first | exact Nat.le_of_ble_eq_true rfl | omega⟩ (fun n_547 => ?_)
      refine ev_ladd dL_kept_550 ?_
      rw [lN_add]
      refine ev_lstore (i := 14) dL_kept_551 (Nat.le_of_ble_eq_true rfl) ?_
      refine ev_lload (i := 9) dL_kept_553 (by repeat (first | with_reducible exact lk_h | ((with_reducible refine lk_e ?_); rfl) | refine lk_m ?_ rfl)) ?_
      refine ev_aload_n (i := 0) dL_kept_555 rfl (by repeat (first | with_reducible exact lk_h | ((with_reducible refine lk_e ?_); rfl) | refine lk_m ?_ rfl)) ?_
      refine ev_iload (i := 20) dL_kept_556 (by repeat (first | with_reducible exact lk_h | ((with_reducible refine lk_e ?_); rfl) | refine lk_m ?_ rfl)) ?_
      refine ev_iconst (v := nI 5) dL_kept_558 rfl ?_
      refine ev_roW dL_kept_559 (a_personOf (p := p) (w := 5) (v := sGiven σ p) hO hI hT c_475 (by decide) (rfl)) lk_L_105 ⟨Nat.le_of_ble_eq_true rfl, Nat.le_of_ble_eq_true rfl⟩ rfl (Nat.le_of_ble_eq_true rfl) ⟨by first | exact Nat.le_of_ble_eq_true rfl | omega, by first | exact Nat.le_of_ble_eq_true rfl | omega⟩ (fun n_559 => ?_)
      refine ev_ladd dL_kept_562 ?_
      rw [lN_add]
      refine ev_lstore (i := 9) dL_kept_563 (Nat.le_of_ble_eq_true rfl) ?_
      refine ev_lload (i := 16) dL_kept_565 (by repeat (first | with_reducible exact lk_h | ((with_reducible refine lk_e ?_); rfl) | refine lk_m ?_ rfl)) ?_
      refine ev_aload_n (i := 0) dL_kept_567 rfl (by repeat (first | with_reducible exact lk_h | ((with_reducible refine lk_e ?_); rfl) | refine lk_m ?_ rfl)) ?_
      refine ev_iload (i := 20) dL_kept_568 (by repeat (first | with_reducible exact lk_h | ((with_reducible refine lk_e ?_); rfl) | refine lk_m ?_ rfl)) ?_
      refine ev_bipush (v := nI 6) dL_kept_570 rfl ?_
      refine ev_roW dL_kept_572 (a_personOf (p := p) (w := 6) (v := sStuckG σ p) hO hI hT c_475 (by decide) (rfl)) lk_L_105 ⟨Nat.le_of_ble_eq_true rfl, Nat.le_of_ble_eq_true rfl⟩ rfl (Nat.le_of_ble_eq_true rfl) ⟨by first | exact Nat.le_of_ble_eq_true rfl | omega, by first | exact Nat.le_of_ble_eq_true rfl | omega⟩ (fun n_572 => ?_)
      refine ev_ladd dL_kept_575 ?_
      rw [lN_add]
      refine ev_lstore (i := 16) dL_kept_576 (Nat.le_of_ble_eq_true rfl) ?_
      refine ev_lload (i := 5) dL_kept_578 (by repeat (first | with_reducible exact lk_h | ((with_reducible refine lk_e ?_); rfl) | refine lk_m ?_ rfl)) ?_
      refine ev_aload_n (i := 0) dL_kept_580 rfl (by repeat (first | with_reducible exact lk_h | ((with_reducible refine lk_e ?_); rfl) | refine lk_m ?_ rfl)) ?_
      refine ev_iload (i := 20) dL_kept_581 (by repeat (first | with_reducible exact lk_h | ((with_reducible refine lk_e ?_); rfl) | refine lk_m ?_ rfl)) ?_
      refine ev_bipush (v := nI 7) dL_kept_583 rfl ?_
      refine ev_roW dL_kept_585 (a_personOf (p := p) (w := 7) (v := σ 4 p) hO hI hT c_475 (by decide) (rfl)) lk_L_105 ⟨Nat.le_of_ble_eq_true rfl, Nat.le_of_ble_eq_true rfl⟩ rfl (Nat.le_of_ble_eq_true rfl) ⟨by first | exact Nat.le_of_ble_eq_true rfl | omega, by first | exact Nat.le_of_ble_eq_true rfl | omega⟩ (fun n_585 => ?_)
      refine ev_ladd dL_kept_588 ?_
      rw [lN_add]
      refine ev_lstore (i := 5) dL_kept_589 (Nat.le_of_ble_eq_true rfl) ?_
      refine ev_lload (i := 7) dL_kept_591 (by repeat (first | with_reducible exact lk_h | ((with_reducible refine lk_e ?_); rfl) | refine lk_m ?_ rfl)) ?_
      refine ev_aload_n (i := 0) dL_kept_593 rfl (by repeat (first | with_reducible exact lk_h | ((with_reducible refine lk_e ?_); rfl) | refine lk_m ?_ rfl)) ?_
      refine ev_iload (i := 20) dL_kept_594 (by repeat (first | with_reducible exact lk_h | ((with_reducible refine lk_e ?_); rfl) | refine lk_m ?_ rfl)) ?_
      refine ev_bipush (v := nI 8) dL_kept_596 rfl ?_
      refine ev_roW dL_kept_598 (a_personOf (p := p) (w := 8) (v := σ 5 p) hO hI hT c_475 (by decide) (rfl)) lk_L_105 ⟨Nat.le_of_ble_eq_true rfl, Nat.le_of_ble_eq_true rfl⟩ rfl (Nat.le_of_ble_eq_true rfl) ⟨by first | exact Nat.le_of_ble_eq_true rfl | omega, by first | exact Nat.le_of_ble_eq_true rfl | omega⟩ (fun n_598 => ?_)
      refine ev_ladd dL_kept_601 ?_
      rw [lN_add]
      refine ev_lstore (i := 7) dL_kept_602 (Nat.le_of_ble_eq_true rfl) ?_
      refine ev_aload_n (i := 0) dL_kept_604 rfl (by repeat (first | with_reducible exact lk_h | ((with_reducible refine lk_e ?_); rfl) | refine lk_m ?_ rfl)) ?_
      refine ev_iload (i := 20) dL_kept_605 (by repeat (first | with_reducible exact lk_h | ((with_reducible refine lk_e ?_); rfl) | refine lk_m ?_ rfl)) ?_
      refine ev_bipush (v := nI 7) dL_kept_607 rfl ?_
      refine ev_roW dL_kept_609 (a_personOf (p := p) (w := 7) (v := σ 4 p) hO hI hT c_475 (by decide) (rfl)) lk_L_105 ⟨Nat.le_of_ble_eq_true rfl, Nat.le_of_ble_eq_true rfl⟩ rfl (Nat.le_of_ble_eq_true rfl) ⟨by first | exact Nat.le_of_ble_eq_true rfl | omega, by first | exact Nat.le_of_ble_eq_true rfl | omega⟩ (fun n_609 => ?_)
      refine ev_lload (i := 18) dL_kept_612 (by repeat (first | with_reducible exact lk_h | ((with_reducible refine lk_e ?_); rfl) | refine lk_m ?_ rfl)) ?_
      refine ev_lcN_le (tgt := 629) dL_kept_614 dL_kept_615 (by decide) (by first | omega | exact Nat.lt_trans (hB _ _) (by decide) | exact hB _ _) (by first | omega | exact Nat.lt_trans (hB _ _) (by decide) | exact hB _ _) (fun c_614 => ?_) (fun c_614 => ?_)
      · refine ev_lload (i := 18) dL_kept_629 (by repeat (first | with_reducible exact lk_h | ((with_reducible refine lk_e ?_); rfl) | refine lk_m ?_ rfl)) ?_
        refine eV.stk (st' := [.long (lN (sMax (σ 4) (p + 1)))]) (by first | rw [sMax, if_neg (by omega)] | rw [sMax, if_pos (by omega)]) ?_
        refine ev_lstore (i := 18) dL_kept_631 (Nat.le_of_ble_eq_true rfl) ?_
        refine ev_iincN dL_kept_633 (by repeat (first | with_reducible exact lk_h | ((with_reducible refine lk_e ?_); rfl) | refine lk_m ?_ rfl)) (Nat.le_of_ble_eq_true rfl) ?_
        refine ev_goto (tgt := 467) dL_kept_636 (by decide) ?_
        exact (ih_467 _ (by omega) _ (p + 1) rfl (by omega)).sub1 ⟨(by repeat (first | with_reducible exact lk_h | ((with_reducible refine lk_e ?_); rfl) | refine lk_m ?_ rfl)), (by repeat (first | with_reducible exact lk_h | ((with_reducible refine lk_e ?_); rfl) | refine lk_m ?_ rfl)), (by repeat (first | with_reducible exact lk_h | ((with_reducible refine lk_e ?_); rfl) | refine lk_m ?_ rfl)), (by repeat (first | with_reducible exact lk_h | ((with_reducible refine lk_e ?_); rfl) | refine lk_m ?_ rfl)), (by repeat (first | with_reducible exact lk_h | ((with_reducible refine lk_e ?_); rfl) | refine lk_m ?_ rfl)), (by repeat (first | with_reducible exact lk_h | ((with_reducible refine lk_e ?_); rfl) | refine lk_m ?_ rfl)), (by repeat (first | with_reducible exact lk_h | ((with_reducible refine lk_e ?_); rfl) | refine lk_m ?_ rfl)), (by repeat (first | with_reducible exact lk_h | ((with_reducible refine lk_e ?_); rfl) | refine lk_m ?_ rfl)), (by repeat (first | with_reducible exact lk_h | ((with_reducible refine lk_e ?_); rfl) | refine lk_m ?_ rfl)), (by repeat (first | with_reducible exact lk_h | ((with_reducible refine lk_e ?_); rfl) | refine lk_m ?_ rfl)), (by repeat (first | with_reducible exact lk_h | ((with_reducible refine lk_e ?_); rfl) | refine lk_m ?_ rfl)), (by repeat (first | with_reducible exact lk_h | ((with_reducible refine lk_e ?_); rfl) | refine lk_m ?_ rfl)), (by repeat (first | with_reducible exact lk_h | ((with_reducible refine lk_e ?_); rfl) | refine lk_m ?_ rfl)), trivial⟩ (eff_id rfl)
      · refine ev_aload_n (i := 0) dL_kept_618 rfl (by repeat (first | with_reducible exact lk_h | ((with_reducible refine lk_e ?_); rfl) | refine lk_m ?_ rfl)) ?_
        refine ev_iload (i := 20) dL_kept_619 (by repeat (first | with_reducible exact lk_h | ((with_reducible refine lk_e ?_); rfl) | refine lk_m ?_ rfl)) ?_
        refine ev_bipush (v := nI 7) dL_kept_621 rfl ?_
        refine ev_roW dL_kept_623 (a_personOf (p := p) (w := 7) (v := σ 4 p) hO hI hT c_475 (by decide) (rfl)) lk_L_105 ⟨Nat.le_of_ble_eq_true rfl, Nat.le_of_ble_eq_true rfl⟩ rfl (Nat.le_of_ble_eq_true rfl) ⟨by first | exact Nat.le_of_ble_eq_true rfl | omega, by first | exact Nat.le_of_ble_eq_true rfl | omega⟩ (fun n_623 => ?_)
        refine ev_goto (tgt := 631) dL_kept_626 (by decide) ?_
        refine eV.stk (st' := [.long (lN (sMax (σ 4) (p + 1)))]) (by first | rw [sMax, if_neg (by omega)] | rw [sMax, if_pos (by omega)]) ?_
        refine ev_lstore (i := 18) dL_kept_631 (Nat.le_of_ble_eq_true rfl) ?_
        refine ev_iincN dL_kept_633 (by repeat (first | with_reducible exact lk_h | ((with_reducible refine lk_e ?_); rfl) | refine lk_m ?_ rfl)) (Nat.le_of_ble_eq_true rfl) ?_
        refine ev_goto (tgt := 467) dL_kept_636 (by decide) ?_
        exact (ih_467 _ (by omega) _ (p + 1) rfl (by omega)).sub1 ⟨(by repeat (first | with_reducible exact lk_h | ((with_reducible refine lk_e ?_); rfl) | refine lk_m ?_ rfl)), (by repeat (first | with_reducible exact lk_h | ((with_reducible refine lk_e ?_); rfl) | refine lk_m ?_ rfl)), (by repeat (first | with_reducible exact lk_h | ((with_reducible refine lk_e ?_); rfl) | refine lk_m ?_ rfl)), (by repeat (first | with_reducible exact lk_h | ((with_reducible refine lk_e ?_); rfl) | refine lk_m ?_ rfl)), (by repeat (first | with_reducible exact lk_h | ((with_reducible refine lk_e ?_); rfl) | refine lk_m ?_ rfl)), (by repeat (first | with_reducible exact lk_h | ((with_reducible refine lk_e ?_); rfl) | refine lk_m ?_ rfl)), (by repeat (first | with_reducible exact lk_h | ((with_reducible refine lk_e ?_); rfl) | refine lk_m ?_ rfl)), (by repeat (first | with_reducible exact lk_h | ((with_reducible refine lk_e ?_); rfl) | refine lk_m ?_ rfl)), (by repeat (first | with_reducible exact lk_h | ((with_reducible refine lk_e ?_); rfl) | refine lk_m ?_ rfl)), (by repeat (first | with_reducible exact lk_h | ((with_reducible refine lk_e ?_); rfl) | refine lk_m ?_ rfl)), (by repeat (first | with_reducible exact lk_h | ((with_reducible refine lk_e ?_); rfl) | refine lk_m ?_ rfl)), (by repeat (first | with_reducible exact lk_h | ((with_reducible refine lk_e ?_); rfl) | refine lk_m ?_ rfl)), (by repeat (first | with_reducible exact lk_h | ((with_reducible refine lk_e ?_); rfl) | refine lk_m ?_ rfl)), trivial⟩ (eff_id rfl)
  exact (H_467 _ n_0 p rfl (by exact hp)).sub1 ⟨(by repeat (first | with_reducible exact lk_h | ((with_reducible refine lk_e ?_); rfl) | refine lk_m ?_ rfl)), (by repeat (first | with_reducible exact lk_h | ((with_reducible refine lk_e ?_); rfl) | refine lk_m ?_ rfl)), (by repeat (first | with_reducible exact lk_h | ((with_reducible refine lk_e ?_); rfl) | refine lk_m ?_ rfl)), (by repeat (first | with_reducible exact lk_h | ((with_reducible refine lk_e ?_); rfl) | refine lk_m ?_ rfl)), (by repeat (first | with_reducible exact lk_h | ((with_reducible refine lk_e ?_); rfl) | refine lk_m ?_ rfl)), (by repeat (first | with_reducible exact lk_h | ((with_reducible refine lk_e ?_); rfl) | refine lk_m ?_ rfl)), (by repeat (first | with_reducible exact lk_h | ((with_reducible refine lk_e ?_); rfl) | refine lk_m ?_ rfl)), (by repeat (first | with_reducible exact lk_h | ((with_reducible refine lk_e ?_); rfl) | refine lk_m ?_ rfl)), (by repeat (first | with_reducible exact lk_h | ((with_reducible refine lk_e ?_); rfl) | refine lk_m ?_ rfl)), (by repeat (first | with_reducible exact lk_h | ((with_reducible refine lk_e ?_); rfl) | refine lk_m ?_ rfl)), (by repeat (first | with_reducible exact lk_h | ((with_reducible refine lk_e ?_); rfl) | refine lk_m ?_ rfl)), (by repeat (first | with_reducible exact lk_h | ((with_reducible refine lk_e ?_); rfl) | refine lk_m ?_ rfl)), (by repeat (first | with_reducible exact lk_h | ((with_reducible refine lk_e ?_); rfl) | refine lk_m ?_ rfl)), trivial⟩ (eff_id rfl)
