theorem sMeant_lt {σ : St} {b m c p : Nat} (h : sMeant σ b m c = some p) : p < σ 0 0 := by
  unfold sMeant at h
  split at h
  · rename_i q hq; cases h; exact (fst_lt hq).1
  · exact (fst_lt h).1
theorem sCallW_lt {σ : St} {b m c p : Nat} (h : sCallW σ b m c = some p) : p < σ 0 0 := by
  unfold sCallW at h
  split at h
  · exact sMeant_lt h
  · cases h
theorem eRg.use {h : eH} {r : Nat} {σ : St} {k y u : Nat} (r0 : h r = some (.inr (4, [.ref (r + 1), .ref (r + 7), .ref (r + 16), .int (nI (σ 0 2)), .int (nI (σ 0 3)), .int (nI (σ 0 4)), .int (nI (σ 0 5))]))) (hP : ePp h (r + 1) σ) (hN : eNm h (r + 7) (sUse σ k y u)) (hS : eArr h (r + 16) 0 3 3 (σ 14)) : eRg h r (sUse σ k y u) := by
  refine ⟨?_, hP.to (by simp [sUse_at]) (fun f _ _ j _ => by simp [sUse_at, show f ≠ 10 by omega, show f ≠ 11 by omega, show f ≠ 12 by omega, show f ≠ 13 by omega]), hN, hS.congr (fun j _ => by simp [sUse_at])⟩
  simpa [sUse_at] using r0
theorem sCallW_b {σ : St} {b m c : Nat} (h : decide (b < 4) = false) : none = sCallW σ b m c := (if_neg (fun z => of_decide_eq_false h z.1)).symm
theorem sCallW_c {σ : St} {b m c : Nat} (h : sCode m c = false) : none = sCallW σ b m c := (if_neg (fun z => absurd z.2 (by rw [h]; decide))).symm
theorem sCallW_y {σ : St} {b m c : Nat} (h : decide (b < 4) = true) (h2 : sCode m c = true) : sMeant σ b m c = sCallW σ b m c := (if_pos ⟨of_decide_eq_true h, h2⟩).symm
set_option maxHeartbeats 4000000 in
set_option maxRecDepth 20000 in
theorem c_X5_callFor {h : eH} {n r T : Nat} {σ : St} (hR : eRg h r σ) (hI : eIv σ T) (hT : T < 2 ^ 30) {b m c : Nat} (hb : b < 2 ^ 31) (hm : m < 2 ^ 31) (hc : c < 2 ^ 31) : kX5_callFor [.ref r, .int (nI b), .int (nI m), .int (nI c)] h n (.inl (some (.int (oI (sCallW σ b m c)))), (fun g => eRg g r (sCall σ b m c) ∧ eFr h g r (r + 17)), some n) 0 0 := by
  refine eM.of RX5 "callFor" [(0, .ref r), (1, .int (nI b)), (2, .int (nI m)), (3, .int (nI c))] pn_X5 rfl rfl (Nat.le_of_ble_eq_true rfl) rfl ?_
  have hO := hI.ok hT
  have hB : eB σ := hO.1
  have hz := hO.2.1
  have hz2 := hO.2.2.1
  have FR : eFr h h r (r + 17) := eFr.rf
  obtain ⟨r0, hP, hN, hS⟩ := id hR
  obtain ⟨p0, p1, p2, p3, p4, p5⟩ := id hP
  obtain ⟨n0, n1, n2, n3, n4, n5, n6, n7, n8, n9⟩ := id hN
  have J_28 : ∀ (o : Option Nat), (o = sCallW σ b m c) → eV mX5_callFor 28 [(0, .ref r), (1, .int (nI b)), (2, .int (nI m)), (3, .int (nI c)), (4, .int (oI o))] [] (h, n, 0, 0) (.inl (some (.int (oI (sCallW σ b m c)))), (fun g => eRg g r (sCall σ b m c) ∧ eFr h g r (r + 17)), some n) 0 0 := by
    intro o hj
    refine ev_iload dX5_callFor_28 rfl ?_
    refine ev_iconst (v := -1) dX5_callFor_30 (by decide) ?_
    first | ((with_reducible show eV _ _ _ (Value.int (nI _) :: Value.int (nI _) :: _) _ _ _ _); refine ev_icmp_neN (tgt := 36) dX5_callFor_31 (by decide) (by first | exact hB _ _ | omega) (by first | exact hB _ _ | omega) (fun c_31 => ?_) (fun c_31 => ?_)) | ((with_reducible show eV _ _ _ (Value.int (-1) :: Value.int (oI _) :: _) _ _ _ _); refine ev_icmp_neO (tgt := 36) dX5_callFor_31 (by decide) (by first | assumption | (intro k9 h9; have := sCallW_lt (hj.symm.trans h9); omega) | (intro k9 h9; have := (fst_lt h9).1; omega)) (fun c_31 => ?_) (fun c_31 => ?_)) | ((with_reducible show eV _ _ _ (Value.int (nI _) :: _) _ _ _ _); refine ev_icmp_neZN (tgt := 36) dX5_callFor_31 (by decide) (by first | exact hB _ _ | omega) (fun c_31 => ?_) (fun c_31 => ?_)) | ((with_reducible show eV _ _ _ (_ :: Value.int (nI _) :: _) _ _ _ _); refine ev_icmp_neNZ (tgt := 36) dX5_callFor_31 (by decide) (by first | exact hB _ _ | omega) (fun c_31 => ?_) (fun c_31 => ?_)) | (refine ev_icmp_neZZ (tgt := 36) dX5_callFor_31 (by decide) (fun c_31 => ?_) (fun c_31 => ?_))
    · obtain ⟨p, rfl⟩ := Option.ne_none_iff_exists'.mp c_31
      have hp := sCallW_lt hj.symm
      rw [show oI (some p) = nI p from rfl]
      refine ev_aload_n dX5_callFor_36 rfl rfl ?_
      refine ev_getfield dX5_callFor_37 fl_X5_21 (by first | assumption | omega | exact ePp.ob (by assumption) | exact eNm.ob (by assumption) | exact eRg.ob (by assumption)) rfl ?_
      refine ev_iload dX5_callFor_40 rfl ?_
      refine ev_iload_n dX5_callFor_42 rfl rfl ?_
      refine ev_iload_n dX5_callFor_43 rfl rfl ?_
      refine ev_callVi dX5_callFor_44 (c_X2_aliveNameOf (by first | assumption | omega | exact ePp.ob (by assumption) | exact eNm.ob (by assumption) | exact eRg.ob (by assumption)) (by first | assumption | omega | exact ePp.ob (by assumption) | exact eNm.ob (by assumption) | exact eRg.ob (by assumption)) (by first | assumption | omega | exact ePp.ob (by assumption) | exact eNm.ob (by assumption) | exact eRg.ob (by assumption)) (by first | assumption | omega | exact ePp.ob (by assumption) | exact eNm.ob (by assumption) | exact eRg.ob (by assumption)) (by first | assumption | omega | exact ePp.ob (by assumption) | exact eNm.ob (by assumption) | exact eRg.ob (by assumption))) rfl lk_X5_99 (by first | assumption | omega | exact ePp.ob (by assumption) | exact eNm.ob (by assumption) | exact eRg.ob (by assumption)) ⟨Nat.le_of_ble_eq_true rfl, Nat.le_of_ble_eq_true rfl⟩ rfl (Nat.le_of_ble_eq_true rfl) ⟨Nat.le_of_ble_eq_true rfl, Nat.le_of_ble_eq_true rfl⟩ (eRo ?_)
      refine ev_istore dX5_callFor_47 (Nat.le_of_ble_eq_true rfl) ?_
      refine ev_iload dX5_callFor_49 rfl ?_
      refine ev_iconst (v := -1) dX5_callFor_51 (by decide) ?_
      first | ((with_reducible show eV _ _ _ (Value.int (nI _) :: Value.int (nI _) :: _) _ _ _ _); refine ev_icmp_eqN (tgt := 77) dX5_callFor_52 (by decide) (by first | exact hB _ _ | omega) (by first | exact hB _ _ | omega) (fun c_52 => ?_) (fun c_52 => ?_)) | ((with_reducible show eV _ _ _ (Value.int (-1) :: Value.int (oI _) :: _) _ _ _ _); refine ev_icmp_eqO (tgt := 77) dX5_callFor_52 (by decide) (by first | assumption | (intro k9 h9; have := sCallW_lt (hj.symm.trans h9); omega) | (intro k9 h9; have := (fst_lt h9).1; omega)) (fun c_52 => ?_) (fun c_52 => ?_)) | ((with_reducible show eV _ _ _ (Value.int (oI _) :: Value.int (nI _) :: _) _ _ _ _); refine ev_icmp_eqNO (tgt := 77) dX5_callFor_52 (by decide) (by first | exact hB _ _ | omega) (by first | assumption | (intro k9 h9; have := sCallW_lt (hj.symm.trans h9); omega) | (intro k9 h9; have := (fst_lt h9).1; omega)) (fun c_52 => ?_) (fun c_52 => ?_)) | ((with_reducible show eV _ _ _ (Value.int (nI _) :: _) _ _ _ _); refine ev_icmp_eqZN (tgt := 77) dX5_callFor_52 (by decide) (by first | exact hB _ _ | omega) (fun c_52 => ?_) (fun c_52 => ?_)) | ((with_reducible show eV _ _ _ (_ :: Value.int (nI _) :: _) _ _ _ _); refine ev_icmp_eqNZ (tgt := 77) dX5_callFor_52 (by decide) (by first | exact hB _ _ | omega) (fun c_52 => ?_) (fun c_52 => ?_)) | (refine ev_icmp_eqZZ (tgt := 77) dX5_callFor_52 (by decide) (fun c_52 => ?_) (fun c_52 => ?_))
      · refine ev_aload_n dX5_callFor_77 rfl rfl ?_
        refine ev_iload dX5_callFor_78 rfl ?_
        refine ev_aload_n dX5_callFor_80 rfl rfl ?_
        refine ev_iload dX5_callFor_81 rfl ?_
        refine ev_iload_n dX5_callFor_83 rfl rfl ?_
        refine ev_iload_n dX5_callFor_84 rfl rfl ?_
        refine ev_callVi dX5_callFor_85 (c_X5_firstBrotherNamed hR hO hp hm hc) rfl lk_X5_103 (by first | assumption | omega | exact ePp.ob (by assumption) | exact eNm.ob (by assumption) | exact eRg.ob (by assumption)) ⟨Nat.le_of_ble_eq_true rfl, Nat.le_of_ble_eq_true rfl⟩ rfl (Nat.le_of_ble_eq_true rfl) ⟨Nat.le_of_ble_eq_true rfl, Nat.le_of_ble_eq_true rfl⟩ (eRo ?_)
        refine ev_callVv dX5_callFor_88 (c_X5_mixUp hR hB hp (fun q hq => (fst_lt hq).1)) rfl lk_X5_124 (by first | assumption | omega | exact ePp.ob (by assumption) | exact eNm.ob (by assumption) | exact eRg.ob (by assumption)) ⟨Nat.le_of_ble_eq_true rfl, Nat.le_of_ble_eq_true rfl⟩ rfl (Nat.le_of_ble_eq_true rfl) ⟨Nat.le_of_ble_eq_true rfl, Nat.le_of_ble_eq_true rfl⟩ (fun g_88 hg_88 => ?_)
        obtain ⟨w_88, fr_88⟩ := hg_88
        replace hR := w_88
        first | replace FR := eFr.trans FR (eFr.one fr_88 (by omega) (by omega)) | replace FR := eFr.trans FR (eFr.wide fr_88 (by omega) (by omega))
        refine ev_iload dX5_callFor_91 rfl ?_
        exact ev_iret dX5_callFor_93 rfl rfl (by exact oR hj.symm) (by first | exact ⟨by unfold sCall; rw [← hj]; simp only [hk]; exact eRg.use r0 hP hN hS, FR⟩ | exact ⟨by unfold sCall; rw [← hj]; simp only [c_52]; exact hR, FR⟩) (fun _ e => Option.some.inj e) (Nat.le_of_ble_eq_true rfl) (Nat.le_of_ble_eq_true rfl)
      · obtain ⟨k, hk⟩ := Option.ne_none_iff_exists'.mp c_52
        rw [hk, show oI (some k) = nI k from rfl]
        refine ev_aload_n dX5_callFor_55 rfl rfl ?_
        refine ev_getfield dX5_callFor_56 fl_X5_21 (by first | assumption | omega | exact ePp.ob (by assumption) | exact eNm.ob (by assumption) | exact eRg.ob (by assumption)) rfl ?_
        refine ev_iload dX5_callFor_59 rfl ?_
        refine ev_aload_n dX5_callFor_61 rfl rfl ?_
        refine ev_getfield dX5_callFor_62 fl_X5_29 (by first | assumption | omega | exact ePp.ob (by assumption) | exact eNm.ob (by assumption) | exact eRg.ob (by assumption)) rfl ?_
        refine ev_aload_n dX5_callFor_65 rfl rfl ?_
        refine ev_getfield dX5_callFor_66 fl_X5_25 (by first | assumption | omega | exact ePp.ob (by assumption) | exact eNm.ob (by assumption) | exact eRg.ob (by assumption)) rfl ?_
        refine ev_iconst (v := nI 0) dX5_callFor_69 rfl ?_
        refine ev_ialoadA dX5_callFor_70 (by first | assumption | omega | exact ePp.ob (by assumption) | exact eNm.ob (by assumption) | exact eRg.ob (by assumption)) (by first | assumption | omega | exact ePp.ob (by assumption) | exact eNm.ob (by assumption) | exact eRg.ob (by assumption)) ?_
        refine ev_callVv dX5_callFor_71 (c_X2_use hN hB (fst_lt hk).1 (by have := (hI.2.2.2.1 k).2.2.2.2.1; omega) (hB _ _)) rfl lk_X5_120 (by first | assumption | omega | exact ePp.ob (by assumption) | exact eNm.ob (by assumption) | exact eRg.ob (by assumption)) ⟨Nat.le_of_ble_eq_true rfl, Nat.le_of_ble_eq_true rfl⟩ rfl (Nat.le_of_ble_eq_true rfl) ⟨Nat.le_of_ble_eq_true rfl, Nat.le_of_ble_eq_true rfl⟩ (fun g_71 hg_71 => ?_)
        obtain ⟨w_71, fr_71⟩ := hg_71
        first | replace r0 := eArr.fr r0 (fr_71 _ (by omega)) | replace r0 := Eq.trans (fr_71 _ (by omega)) r0 | replace r0 := eBo.fr r0 (fr_71 _ (by omega)) | replace r0 := z_71 r0 | replace r0 := z_71 | replace r0 := ePp.fr1 r0 (fun a _ _ => fr_71 a (by omega)) | replace r0 := eNm.fr1 r0 (fun a _ _ => fr_71 a (by omega)) | replace r0 := eRg.fr r0 (fun a _ _ => fr_71 a (by omega))
        first | replace hP := eArr.fr hP (fr_71 _ (by omega)) | replace hP := Eq.trans (fr_71 _ (by omega)) hP | replace hP := eBo.fr hP (fr_71 _ (by omega)) | replace hP := z_71 hP | replace hP := z_71 | replace hP := ePp.fr1 hP (fun a _ _ => fr_71 a (by omega)) | replace hP := eNm.fr1 hP (fun a _ _ => fr_71 a (by omega)) | replace hP := eRg.fr hP (fun a _ _ => fr_71 a (by omega))
        replace hN := w_71
        first | replace hS := eArr.fr hS (fr_71 _ (by omega)) | replace hS := Eq.trans (fr_71 _ (by omega)) hS | replace hS := eBo.fr hS (fr_71 _ (by omega)) | replace hS := z_71 hS | replace hS := z_71 | replace hS := ePp.fr1 hS (fun a _ _ => fr_71 a (by omega)) | replace hS := eNm.fr1 hS (fun a _ _ => fr_71 a (by omega)) | replace hS := eRg.fr hS (fun a _ _ => fr_71 a (by omega))
        first | replace FR := eFr.trans FR (eFr.one fr_71 (by omega) (by omega)) | replace FR := eFr.trans FR (eFr.wide fr_71 (by omega) (by omega))
        refine ev_goto (tgt := 91) dX5_callFor_74 (by decide) ?_
        refine ev_iload dX5_callFor_91 rfl ?_
        exact ev_iret dX5_callFor_93 rfl rfl (by exact oR hj.symm) (by first | exact ⟨by unfold sCall; rw [← hj]; simp only [hk]; exact eRg.use r0 hP hN hS, FR⟩ | exact ⟨by unfold sCall; rw [← hj]; simp only [c_52]; exact hR, FR⟩) (fun _ e => Option.some.inj e) (Nat.le_of_ble_eq_true rfl) (Nat.le_of_ble_eq_true rfl)
    · refine ev_iconst (v := -1) dX5_callFor_34 (by decide) ?_
      exact ev_iret dX5_callFor_35 rfl rfl (by exact oRn (hj ▸ c_31)) (by exact ⟨by unfold sCall; rw [← hj, c_31]; exact hR, eFr.rf⟩) (fun _ e => Option.some.inj e) (Nat.le_of_ble_eq_true rfl) (Nat.le_of_ble_eq_true rfl)
  refine ev_iload_n dX5_callFor_0 rfl rfl ?_
  refine ev_callNi dX5_callFor_1 (c_X10_isBench hb) lk_X5_109 ws_yX10_isBench ⟨Nat.le_of_ble_eq_true rfl, Nat.le_of_ble_eq_true rfl⟩ rfl (Nat.le_of_ble_eq_true rfl) ⟨Nat.le_of_ble_eq_true rfl, Nat.le_of_ble_eq_true rfl⟩ (eRo ?_)
  first | ((with_reducible show eV _ _ _ (Value.int (bI _) :: _) _ _ _ _); refine ev_if_eqB (tgt := 25) dX5_callFor_4 (by decide) (fun c_4 => ?_) (fun c_4 => ?_)) | ((with_reducible show eV _ _ _ (Value.int (nI _) :: _) _ _ _ _); refine ev_if_eqN (tgt := 25) dX5_callFor_4 (by decide) (by first | exact hB _ _ | omega) (fun c_4 => ?_) (fun c_4 => ?_)) | (refine ev_if_eqZ (tgt := 25) dX5_callFor_4 (by decide) (fun c_4 => ?_) (fun c_4 => ?_))
  · refine ev_iconst (v := -1) dX5_callFor_25 (by decide) ?_
    refine ev_istore dX5_callFor_26 (Nat.le_of_ble_eq_true rfl) ?_
    first | (exact (J_28 none (by first | exact sCallW_b c_4 | exact sCallW_c c_12 | exact sCallW_y c_4 c_12)).sub1 ⟨rfl, rfl, rfl, rfl, rfl, trivial⟩ rfl) | (exact (J_28 (sMeant σ b m c) (by first | exact sCallW_b c_4 | exact sCallW_c c_12 | exact sCallW_y c_4 c_12)).sub1 ⟨rfl, rfl, rfl, rfl, rfl, trivial⟩ rfl)
  · refine ev_iload_n dX5_callFor_7 rfl rfl ?_
    refine ev_iload_n dX5_callFor_8 rfl rfl ?_
    refine ev_callSi dX5_callFor_9 (c_X0_isCode hm hc) lk_X5_112 ⟨Nat.le_of_ble_eq_true rfl, Nat.le_of_ble_eq_true rfl⟩ rfl (Nat.le_of_ble_eq_true rfl) ⟨Nat.le_of_ble_eq_true rfl, Nat.le_of_ble_eq_true rfl⟩ (eRo ?_)
    first | ((with_reducible show eV _ _ _ (Value.int (bI _) :: _) _ _ _ _); refine ev_if_eqB (tgt := 25) dX5_callFor_12 (by decide) (fun c_12 => ?_) (fun c_12 => ?_)) | ((with_reducible show eV _ _ _ (Value.int (nI _) :: _) _ _ _ _); refine ev_if_eqN (tgt := 25) dX5_callFor_12 (by decide) (by first | exact hB _ _ | omega) (fun c_12 => ?_) (fun c_12 => ?_)) | (refine ev_if_eqZ (tgt := 25) dX5_callFor_12 (by decide) (fun c_12 => ?_) (fun c_12 => ?_))
    · refine ev_iconst (v := -1) dX5_callFor_25 (by decide) ?_
      refine ev_istore dX5_callFor_26 (Nat.le_of_ble_eq_true rfl) ?_
      first | (exact (J_28 none (by first | exact sCallW_b c_4 | exact sCallW_c c_12 | exact sCallW_y c_4 c_12)).sub1 ⟨rfl, rfl, rfl, rfl, rfl, trivial⟩ rfl) | (exact (J_28 (sMeant σ b m c) (by first | exact sCallW_b c_4 | exact sCallW_c c_12 | exact sCallW_y c_4 c_12)).sub1 ⟨rfl, rfl, rfl, rfl, rfl, trivial⟩ rfl)
    · refine ev_aload_n dX5_callFor_15 rfl rfl ?_
      refine ev_iload_n dX5_callFor_16 rfl rfl ?_
      refine ev_iload_n dX5_callFor_17 rfl rfl ?_
      refine ev_iload_n dX5_callFor_18 rfl rfl ?_
      refine ev_callVi dX5_callFor_19 (c_X5_meantByPeople (by first | assumption | omega | exact ePp.ob (by assumption) | exact eNm.ob (by assumption) | exact eRg.ob (by assumption)) (by first | assumption | omega | exact ePp.ob (by assumption) | exact eNm.ob (by assumption) | exact eRg.ob (by assumption)) (by first | assumption | omega | exact ePp.ob (by assumption) | exact eNm.ob (by assumption) | exact eRg.ob (by assumption)) (by first | assumption | omega | exact ePp.ob (by assumption) | exact eNm.ob (by assumption) | exact eRg.ob (by assumption)) (by first | assumption | omega | exact ePp.ob (by assumption) | exact eNm.ob (by assumption) | exact eRg.ob (by assumption))) rfl lk_X5_117 (by first | assumption | omega | exact ePp.ob (by assumption) | exact eNm.ob (by assumption) | exact eRg.ob (by assumption)) ⟨Nat.le_of_ble_eq_true rfl, Nat.le_of_ble_eq_true rfl⟩ rfl (Nat.le_of_ble_eq_true rfl) ⟨Nat.le_of_ble_eq_true rfl, Nat.le_of_ble_eq_true rfl⟩ (eRo ?_)
      refine ev_goto (tgt := 26) dX5_callFor_22 (by decide) ?_
      refine ev_istore dX5_callFor_26 (Nat.le_of_ble_eq_true rfl) ?_
      first | (exact (J_28 none (by first | exact sCallW_b c_4 | exact sCallW_c c_12 | exact sCallW_y c_4 c_12)).sub1 ⟨rfl, rfl, rfl, rfl, rfl, trivial⟩ rfl) | (exact (J_28 (sMeant σ b m c) (by first | exact sCallW_b c_4 | exact sCallW_c c_12 | exact sCallW_y c_4 c_12)).sub1 ⟨rfl, rfl, rfl, rfl, rfl, trivial⟩ rfl)
theorem eRg.by {h : eH} {r : Nat} {σ τ : St} (r0 : h r = some (.inr (4, [.ref (r + 1), .ref (r + 7), .ref (r + 16), .int (nI (σ 0 2)), .int (nI (σ 0 3)), .int (nI (σ 0 4)), .int (nI (σ 0 5))]))) (hP : ePp h (r + 1) σ) (hN : eNm h (r + 7) τ) (hS : eArr h (r + 16) 0 3 3 (σ 14)) (e0 : ∀ i, i ≠ 1 → τ 0 i = σ 0 i) (e1 : ∀ f, 1 ≤ f → f ≤ 5 → ∀ j, τ f j = σ f j) (e14 : ∀ j, τ 14 j = σ 14 j) : eRg h r τ := by
  refine ⟨?_, hP.to (e0 0 (by decide)) (fun f h1 h2 j _ => e1 f h1 h2 j), hN, hS.congr (fun j _ => (e14 j).symm)⟩
  rw [e0 2 (by decide), e0 3 (by decide), e0 4 (by decide), e0 5 (by decide)]
  exact r0
theorem eNm.state {h : eH} {q : Nat} {σ : St} {k v : Nat} (n0 : h q = some (.inr (1, [.int (nI (σ 0 1)), .ref (q + 1), .ref (q + 2), .ref (q + 3), .ref (q + 4), .ref (q + 5), .ref (q + 6), .ref (q + 7), .ref (q + 8)]))) (n1 : eArr h (q + 1) 0 40 (σ 0 1) (σ 6)) (n2 : eArr h (q + 2) 0 40 (σ 0 1) (σ 7)) (n3 : eArr h (q + 3) 0 40 (σ 0 1) (σ 8)) (n4 : eArr h (q + 4) 0 40 (σ 0 1) (σ 9)) (n5 : eArr h (q + 5) 0 40 (σ 0 1) (σ 10)) (n6 : eArr h (q + 6) 0 40 (σ 0 1) (σ 11)) (n7 : eArr h (q + 7) 0 40 (σ 0 1) (fun j => if j = k then v else σ 12 j)) (n8 : eArr h (q + 8) 2 40 (σ 0 1) (σ 13)) (n9 : eBo h (q + 8)) : eNm h q (su σ 12 k v) := by
  have e : su σ 12 k v 0 1 = σ 0 1 := su_ne (Or.inl (by decide))
  refine ⟨by rw [e]; exact n0, ?_, ?_, ?_, ?_, ?_, ?_, ?_, ?_, n9⟩ <;> rw [e]
  · exact n1.congr (fun j _ => by simp [su])
  · exact n2.congr (fun j _ => by simp [su])
  · exact n3.congr (fun j _ => by simp [su])
  · exact n4.congr (fun j _ => by simp [su])
  · exact n5.congr (fun j _ => by simp [su])
  · exact n6.congr (fun j _ => by simp [su])
  · exact n7.congr (fun j _ => by simp [su])
  · exact n8.congr (fun j _ => by simp [su])
theorem sHeirOf_a {σ : St} {k : Nat} (h : σ 12 k ≠ 1) : none = sHeirOf σ k := (if_neg (fun z => h z.1)).symm
theorem sHeirOf_f {σ : St} {k : Nat} (h : decide (40 ≤ σ 0 1) = true) : none = sHeirOf σ k := (if_neg (fun z => z.2 (of_decide_eq_true h))).symm
theorem sHeirOf_y {σ : St} {k : Nat} (h : σ 12 k = 1) (h2 : decide (40 ≤ σ 0 1) = false) : sHeir σ (σ 9 k) = sHeirOf σ k := (if_pos ⟨h, of_decide_eq_false h2⟩).symm
set_option maxHeartbeats 4000000 in
set_option maxRecDepth 20000 in
theorem c_X5_outgrow {h : eH} {n r T : Nat} {σ : St} (hR : eRg h r σ) (hI : eIv σ T) (hT : T < 2 ^ 30) {k : Nat} (hk : k < σ 0 1) : kX5_outgrow [.ref r, .int (nI k)] h n (.inl none, (fun g => eRg g r (sOutgrow σ k) ∧ eFr h g r (r + 17)), some n) 0 0 := by
  refine eM.of RX5 "outgrow" [(0, .ref r), (1, .int (nI k))] pn_X5 rfl rfl (Nat.le_of_ble_eq_true rfl) rfl ?_
  have hO := hI.ok hT
  have hB : eB σ := hO.1
  have hz := hO.2.1
  have hz2 := hO.2.2.1
  have hw := hO.2.2.2.1 k hk
  have FR : eFr h h r (r + 17) := eFr.rf
  obtain ⟨r0, hP, hN, hS⟩ := id hR
  obtain ⟨n0, n1, n2, n3, n4, n5, n6, n7, n8, n9⟩ := id hN
  have J_43 : ∀ (o : Option Nat), (o = sHeirOf σ k) → eV mX5_outgrow 43 [(0, .ref r), (1, .int (nI k)), (2, .int (nI (σ 9 k))), (3, .int (oI o))] [] (h, n, 0, 0) (.inl none, (fun g => eRg g r (sOutgrow σ k) ∧ eFr h g r (r + 17)), some n) 0 0 := by
    intro o hj
    refine ev_iload_n dX5_outgrow_43 rfl rfl ?_
    refine ev_iconst (v := -1) dX5_outgrow_44 (by decide) ?_
    first | ((with_reducible show eV _ _ _ (Value.int (nI _) :: Value.int (nI _) :: _) _ _ _ _); refine ev_icmp_neN (tgt := 61) dX5_outgrow_45 (by decide) (by first | exact hB _ _ | omega) (by first | exact hB _ _ | omega) (fun c_45 => ?_) (fun c_45 => ?_)) | ((with_reducible show eV _ _ _ (Value.int (-1) :: Value.int (oI _) :: _) _ _ _ _); refine ev_icmp_neO (tgt := 61) dX5_outgrow_45 (by decide) (by first | assumption | (intro k9 h9; have := (sHeirOf_lt (hj.symm.trans h9)).1; omega)) (fun c_45 => ?_) (fun c_45 => ?_)) | ((with_reducible show eV _ _ _ (Value.int (nI _) :: _) _ _ _ _); refine ev_icmp_neZN (tgt := 61) dX5_outgrow_45 (by decide) (by first | exact hB _ _ | omega) (fun c_45 => ?_) (fun c_45 => ?_)) | ((with_reducible show eV _ _ _ (_ :: Value.int (nI _) :: _) _ _ _ _); refine ev_icmp_neNZ (tgt := 61) dX5_outgrow_45 (by decide) (by first | exact hB _ _ | omega) (fun c_45 => ?_) (fun c_45 => ?_)) | (refine ev_icmp_neZZ (tgt := 61) dX5_outgrow_45 (by decide) (fun c_45 => ?_) (fun c_45 => ?_))
    · obtain ⟨q, rfl⟩ := Option.ne_none_iff_exists'.mp c_45
      have hq := sHeirOf_lt hj.symm
      rw [show oI (some q) = nI q from rfl]
      refine ev_aload_n dX5_outgrow_61 rfl rfl ?_
      refine ev_getfield dX5_outgrow_62 fl_X5_21 (by first | assumption | omega | exact ePp.ob (by assumption) | exact eNm.ob (by assumption) | exact eRg.ob (by assumption)) rfl ?_
      refine ev_getfield dX5_outgrow_65 fl_X5_150 (by first | assumption | omega | exact ePp.ob (by assumption) | exact eNm.ob (by assumption) | exact eRg.ob (by assumption)) rfl ?_
      refine ev_iload_n dX5_outgrow_68 rfl rfl ?_
      refine ev_iconst (v := nI 4) dX5_outgrow_69 rfl ?_
      refine ev_iastoreA dX5_outgrow_70 (by first | assumption | omega | exact ePp.ob (by assumption) | exact eNm.ob (by assumption) | exact eRg.ob (by assumption)) (by first | assumption | omega | exact ePp.ob (by assumption) | exact eNm.ob (by assumption) | exact eRg.ob (by assumption)) (fun g_70 fr_70 w_70 => ?_)
      first | replace r0 := eArr.fr r0 (fr_70 _ (by omega)) | replace r0 := Eq.trans (fr_70 _ (by omega)) r0 | replace r0 := eBo.fr r0 (fr_70 _ (by omega)) | replace r0 := z_70 r0 | replace r0 := z_70 | replace r0 := ePp.fr1 r0 (fun a _ _ => fr_70 a (by omega)) | replace r0 := eNm.fr1 r0 (fun a _ _ => fr_70 a (by omega)) | replace r0 := eRg.fr r0 (fun a _ _ => fr_70 a (by omega))
      first | replace hP := eArr.fr hP (fr_70 _ (by omega)) | replace hP := Eq.trans (fr_70 _ (by omega)) hP | replace hP := eBo.fr hP (fr_70 _ (by omega)) | replace hP := z_70 hP | replace hP := z_70 | replace hP := ePp.fr1 hP (fun a _ _ => fr_70 a (by omega)) | replace hP := eNm.fr1 hP (fun a _ _ => fr_70 a (by omega)) | replace hP := eRg.fr hP (fun a _ _ => fr_70 a (by omega))
      first | replace n0 := eArr.fr n0 (fr_70 _ (by omega)) | replace n0 := Eq.trans (fr_70 _ (by omega)) n0 | replace n0 := eBo.fr n0 (fr_70 _ (by omega)) | replace n0 := z_70 n0 | replace n0 := z_70 | replace n0 := ePp.fr1 n0 (fun a _ _ => fr_70 a (by omega)) | replace n0 := eNm.fr1 n0 (fun a _ _ => fr_70 a (by omega)) | replace n0 := eRg.fr n0 (fun a _ _ => fr_70 a (by omega))
      first | replace n1 := eArr.fr n1 (fr_70 _ (by omega)) | replace n1 := Eq.trans (fr_70 _ (by omega)) n1 | replace n1 := eBo.fr n1 (fr_70 _ (by omega)) | replace n1 := z_70 n1 | replace n1 := z_70 | replace n1 := ePp.fr1 n1 (fun a _ _ => fr_70 a (by omega)) | replace n1 := eNm.fr1 n1 (fun a _ _ => fr_70 a (by omega)) | replace n1 := eRg.fr n1 (fun a _ _ => fr_70 a (by omega))
      first | replace n2 := eArr.fr n2 (fr_70 _ (by omega)) | replace n2 := Eq.trans (fr_70 _ (by omega)) n2 | replace n2 := eBo.fr n2 (fr_70 _ (by omega)) | replace n2 := z_70 n2 | replace n2 := z_70 | replace n2 := ePp.fr1 n2 (fun a _ _ => fr_70 a (by omega)) | replace n2 := eNm.fr1 n2 (fun a _ _ => fr_70 a (by omega)) | replace n2 := eRg.fr n2 (fun a _ _ => fr_70 a (by omega))
      first | replace n3 := eArr.fr n3 (fr_70 _ (by omega)) | replace n3 := Eq.trans (fr_70 _ (by omega)) n3 | replace n3 := eBo.fr n3 (fr_70 _ (by omega)) | replace n3 := z_70 n3 | replace n3 := z_70 | replace n3 := ePp.fr1 n3 (fun a _ _ => fr_70 a (by omega)) | replace n3 := eNm.fr1 n3 (fun a _ _ => fr_70 a (by omega)) | replace n3 := eRg.fr n3 (fun a _ _ => fr_70 a (by omega))
      first | replace n4 := eArr.fr n4 (fr_70 _ (by omega)) | replace n4 := Eq.trans (fr_70 _ (by omega)) n4 | replace n4 := eBo.fr n4 (fr_70 _ (by omega)) | replace n4 := z_70 n4 | replace n4 := z_70 | replace n4 := ePp.fr1 n4 (fun a _ _ => fr_70 a (by omega)) | replace n4 := eNm.fr1 n4 (fun a _ _ => fr_70 a (by omega)) | replace n4 := eRg.fr n4 (fun a _ _ => fr_70 a (by omega))
      first | replace n5 := eArr.fr n5 (fr_70 _ (by omega)) | replace n5 := Eq.trans (fr_70 _ (by omega)) n5 | replace n5 := eBo.fr n5 (fr_70 _ (by omega)) | replace n5 := z_70 n5 | replace n5 := z_70 | replace n5 := ePp.fr1 n5 (fun a _ _ => fr_70 a (by omega)) | replace n5 := eNm.fr1 n5 (fun a _ _ => fr_70 a (by omega)) | replace n5 := eRg.fr n5 (fun a _ _ => fr_70 a (by omega))
      first | replace n6 := eArr.fr n6 (fr_70 _ (by omega)) | replace n6 := Eq.trans (fr_70 _ (by omega)) n6 | replace n6 := eBo.fr n6 (fr_70 _ (by omega)) | replace n6 := z_70 n6 | replace n6 := z_70 | replace n6 := ePp.fr1 n6 (fun a _ _ => fr_70 a (by omega)) | replace n6 := eNm.fr1 n6 (fun a _ _ => fr_70 a (by omega)) | replace n6 := eRg.fr n6 (fun a _ _ => fr_70 a (by omega))
      replace n7 := w_70 _ (Or.inl (Nat.le_refl _))
      first | replace n8 := eArr.fr n8 (fr_70 _ (by omega)) | replace n8 := Eq.trans (fr_70 _ (by omega)) n8 | replace n8 := eBo.fr n8 (fr_70 _ (by omega)) | replace n8 := z_70 n8 | replace n8 := z_70 | replace n8 := ePp.fr1 n8 (fun a _ _ => fr_70 a (by omega)) | replace n8 := eNm.fr1 n8 (fun a _ _ => fr_70 a (by omega)) | replace n8 := eRg.fr n8 (fun a _ _ => fr_70 a (by omega))
      first | replace n9 := eArr.fr n9 (fr_70 _ (by omega)) | replace n9 := Eq.trans (fr_70 _ (by omega)) n9 | replace n9 := eBo.fr n9 (fr_70 _ (by omega)) | replace n9 := z_70 n9 | replace n9 := z_70 | replace n9 := ePp.fr1 n9 (fun a _ _ => fr_70 a (by omega)) | replace n9 := eNm.fr1 n9 (fun a _ _ => fr_70 a (by omega)) | replace n9 := eRg.fr n9 (fun a _ _ => fr_70 a (by omega))
      first | replace hS := eArr.fr hS (fr_70 _ (by omega)) | replace hS := Eq.trans (fr_70 _ (by omega)) hS | replace hS := eBo.fr hS (fr_70 _ (by omega)) | replace hS := z_70 hS | replace hS := z_70 | replace hS := ePp.fr1 hS (fun a _ _ => fr_70 a (by omega)) | replace hS := eNm.fr1 hS (fun a _ _ => fr_70 a (by omega)) | replace hS := eRg.fr hS (fun a _ _ => fr_70 a (by omega))
      first | replace FR := eFr.trans FR (eFr.one fr_70 (by omega) (by omega)) | replace FR := eFr.trans FR (eFr.wide fr_70 (by omega) (by omega))
      have hN4 := eNm.state n0 n1 n2 n3 n4 n5 n6 n7 n8 n9
      refine ev_aload_n dX5_outgrow_71 rfl rfl ?_
      refine ev_getfield dX5_outgrow_72 fl_X5_21 (by first | assumption | omega | exact ePp.ob (by assumption) | exact eNm.ob (by assumption) | exact eRg.ob (by assumption)) rfl ?_
      refine ev_iload_n dX5_outgrow_75 rfl rfl ?_
      refine ev_iload_n dX5_outgrow_76 rfl rfl ?_
      refine ev_aload_n dX5_outgrow_77 rfl rfl ?_
      refine ev_getfield dX5_outgrow_78 fl_X5_21 (by first | assumption | omega | exact ePp.ob (by assumption) | exact eNm.ob (by assumption) | exact eRg.ob (by assumption)) rfl ?_
      refine ev_getfield dX5_outgrow_81 fl_X5_93 (by first | assumption | omega | exact ePp.ob (by assumption) | exact eNm.ob (by assumption) | exact eRg.ob (by assumption)) rfl ?_
      refine ev_iload_n dX5_outgrow_84 rfl rfl ?_
      refine ev_ialoadA dX5_outgrow_85 (by first | assumption | omega | exact ePp.ob (by assumption) | exact eNm.ob (by assumption) | exact eRg.ob (by assumption)) (by first | assumption | omega | exact ePp.ob (by assumption) | exact eNm.ob (by assumption) | exact eRg.ob (by assumption)) ?_
      refine ev_aload_n dX5_outgrow_86 rfl rfl ?_
      refine ev_getfield dX5_outgrow_87 fl_X5_21 (by first | assumption | omega | exact ePp.ob (by assumption) | exact eNm.ob (by assumption) | exact eRg.ob (by assumption)) rfl ?_
      refine ev_getfield dX5_outgrow_90 fl_X5_96 (by first | assumption | omega | exact ePp.ob (by assumption) | exact eNm.ob (by assumption) | exact eRg.ob (by assumption)) rfl ?_
      refine ev_iload_n dX5_outgrow_93 rfl rfl ?_
      refine ev_ialoadA dX5_outgrow_94 (by first | assumption | omega | exact ePp.ob (by assumption) | exact eNm.ob (by assumption) | exact eRg.ob (by assumption)) (by first | assumption | omega | exact ePp.ob (by assumption) | exact eNm.ob (by assumption) | exact eRg.ob (by assumption)) ?_
      refine ev_aload_n dX5_outgrow_95 rfl rfl ?_
      refine ev_getfield dX5_outgrow_96 fl_X5_29 (by first | assumption | omega | exact ePp.ob (by assumption) | exact eNm.ob (by assumption) | exact eRg.ob (by assumption)) rfl ?_
      refine ev_callVv dX5_outgrow_99 (c_X2_add hN4 (hI.state (by decide) |>.ok hT).1 hq.2) rfl lk_X5_166 (by first | assumption | omega | exact ePp.ob (by assumption) | exact eNm.ob (by assumption) | exact eRg.ob (by assumption)) ⟨Nat.le_of_ble_eq_true rfl, Nat.le_of_ble_eq_true rfl⟩ rfl (Nat.le_of_ble_eq_true rfl) ⟨Nat.le_of_ble_eq_true rfl, Nat.le_of_ble_eq_true rfl⟩ (fun g_99 hg_99 => ?_)
      obtain ⟨w_99, fr_99⟩ := hg_99
      first | replace r0 := eArr.fr r0 (fr_99 _ (by omega)) | replace r0 := Eq.trans (fr_99 _ (by omega)) r0 | replace r0 := eBo.fr r0 (fr_99 _ (by omega)) | replace r0 := z_99 r0 | replace r0 := z_99 | replace r0 := ePp.fr1 r0 (fun a _ _ => fr_99 a (by omega)) | replace r0 := eNm.fr1 r0 (fun a _ _ => fr_99 a (by omega)) | replace r0 := eRg.fr r0 (fun a _ _ => fr_99 a (by omega))
      first | replace hP := eArr.fr hP (fr_99 _ (by omega)) | replace hP := Eq.trans (fr_99 _ (by omega)) hP | replace hP := eBo.fr hP (fr_99 _ (by omega)) | replace hP := z_99 hP | replace hP := z_99 | replace hP := ePp.fr1 hP (fun a _ _ => fr_99 a (by omega)) | replace hP := eNm.fr1 hP (fun a _ _ => fr_99 a (by omega)) | replace hP := eRg.fr hP (fun a _ _ => fr_99 a (by omega))
      replace hN4 := w_99
      first | replace hS := eArr.fr hS (fr_99 _ (by omega)) | replace hS := Eq.trans (fr_99 _ (by omega)) hS | replace hS := eBo.fr hS (fr_99 _ (by omega)) | replace hS := z_99 hS | replace hS := z_99 | replace hS := ePp.fr1 hS (fun a _ _ => fr_99 a (by omega)) | replace hS := eNm.fr1 hS (fun a _ _ => fr_99 a (by omega)) | replace hS := eRg.fr hS (fun a _ _ => fr_99 a (by omega))
      first | replace FR := eFr.trans FR (eFr.one fr_99 (by omega) (by omega)) | replace FR := eFr.trans FR (eFr.wide fr_99 (by omega) (by omega))
      exact ev_vret dX5_outgrow_102 rfl rfl (by first | exact ⟨by unfold sOutgrow; rw [← hj, c_45]; exact eRg.by r0 hP (eNm.state n0 n1 n2 n3 n4 n5 n6 n7 n8 n9) hS (fun i _ => by simp [su]) (fun f h1 h2 j => by simp [su, show f ≠ 12 by omega]) (fun j => by simp [su]), FR⟩ | exact ⟨by unfold sOutgrow; rw [← hj]; exact eRg.by r0 hP hN4 hS (fun i hi => by simp [sAddN, su, hi]) (fun f h1 h2 j => by simp [sAddN, su, show f ≠ 0 by omega, show f ≠ 6 by omega, show f ≠ 7 by omega, show f ≠ 8 by omega, show f ≠ 9 by omega, show f ≠ 10 by omega, show f ≠ 11 by omega, show f ≠ 12 by omega, show f ≠ 13 by omega]) (fun j => by simp [sAddN, su]), FR⟩) (fun _ e => Option.some.inj e) (Nat.le_of_ble_eq_true rfl) (Nat.le_of_ble_eq_true rfl)
    · refine ev_aload_n dX5_outgrow_48 rfl rfl ?_
      refine ev_getfield dX5_outgrow_49 fl_X5_21 (by first | assumption | omega | exact ePp.ob (by assumption) | exact eNm.ob (by assumption) | exact eRg.ob (by assumption)) rfl ?_
      refine ev_getfield dX5_outgrow_52 fl_X5_150 (by first | assumption | omega | exact ePp.ob (by assumption) | exact eNm.ob (by assumption) | exact eRg.ob (by assumption)) rfl ?_
      refine ev_iload_n dX5_outgrow_55 rfl rfl ?_
      refine ev_iconst (v := nI 3) dX5_outgrow_56 rfl ?_
      refine ev_iastoreA dX5_outgrow_57 (by first | assumption | omega | exact ePp.ob (by assumption) | exact eNm.ob (by assumption) | exact eRg.ob (by assumption)) (by first | assumption | omega | exact ePp.ob (by assumption) | exact eNm.ob (by assumption) | exact eRg.ob (by assumption)) (fun g_57 fr_57 w_57 => ?_)
      first | replace r0 := eArr.fr r0 (fr_57 _ (by omega)) | replace r0 := Eq.trans (fr_57 _ (by omega)) r0 | replace r0 := eBo.fr r0 (fr_57 _ (by omega)) | replace r0 := z_57 r0 | replace r0 := z_57 | replace r0 := ePp.fr1 r0 (fun a _ _ => fr_57 a (by omega)) | replace r0 := eNm.fr1 r0 (fun a _ _ => fr_57 a (by omega)) | replace r0 := eRg.fr r0 (fun a _ _ => fr_57 a (by omega))
      first | replace hP := eArr.fr hP (fr_57 _ (by omega)) | replace hP := Eq.trans (fr_57 _ (by omega)) hP | replace hP := eBo.fr hP (fr_57 _ (by omega)) | replace hP := z_57 hP | replace hP := z_57 | replace hP := ePp.fr1 hP (fun a _ _ => fr_57 a (by omega)) | replace hP := eNm.fr1 hP (fun a _ _ => fr_57 a (by omega)) | replace hP := eRg.fr hP (fun a _ _ => fr_57 a (by omega))
      first | replace n0 := eArr.fr n0 (fr_57 _ (by omega)) | replace n0 := Eq.trans (fr_57 _ (by omega)) n0 | replace n0 := eBo.fr n0 (fr_57 _ (by omega)) | replace n0 := z_57 n0 | replace n0 := z_57 | replace n0 := ePp.fr1 n0 (fun a _ _ => fr_57 a (by omega)) | replace n0 := eNm.fr1 n0 (fun a _ _ => fr_57 a (by omega)) | replace n0 := eRg.fr n0 (fun a _ _ => fr_57 a (by omega))
      first | replace n1 := eArr.fr n1 (fr_57 _ (by omega)) | replace n1 := Eq.trans (fr_57 _ (by omega)) n1 | replace n1 := eBo.fr n1 (fr_57 _ (by omega)) | replace n1 := z_57 n1 | replace n1 := z_57 | replace n1 := ePp.fr1 n1 (fun a _ _ => fr_57 a (by omega)) | replace n1 := eNm.fr1 n1 (fun a _ _ => fr_57 a (by omega)) | replace n1 := eRg.fr n1 (fun a _ _ => fr_57 a (by omega))
      first | replace n2 := eArr.fr n2 (fr_57 _ (by omega)) | replace n2 := Eq.trans (fr_57 _ (by omega)) n2 | replace n2 := eBo.fr n2 (fr_57 _ (by omega)) | replace n2 := z_57 n2 | replace n2 := z_57 | replace n2 := ePp.fr1 n2 (fun a _ _ => fr_57 a (by omega)) | replace n2 := eNm.fr1 n2 (fun a _ _ => fr_57 a (by omega)) | replace n2 := eRg.fr n2 (fun a _ _ => fr_57 a (by omega))
      first | replace n3 := eArr.fr n3 (fr_57 _ (by omega)) | replace n3 := Eq.trans (fr_57 _ (by omega)) n3 | replace n3 := eBo.fr n3 (fr_57 _ (by omega)) | replace n3 := z_57 n3 | replace n3 := z_57 | replace n3 := ePp.fr1 n3 (fun a _ _ => fr_57 a (by omega)) | replace n3 := eNm.fr1 n3 (fun a _ _ => fr_57 a (by omega)) | replace n3 := eRg.fr n3 (fun a _ _ => fr_57 a (by omega))
      first | replace n4 := eArr.fr n4 (fr_57 _ (by omega)) | replace n4 := Eq.trans (fr_57 _ (by omega)) n4 | replace n4 := eBo.fr n4 (fr_57 _ (by omega)) | replace n4 := z_57 n4 | replace n4 := z_57 | replace n4 := ePp.fr1 n4 (fun a _ _ => fr_57 a (by omega)) | replace n4 := eNm.fr1 n4 (fun a _ _ => fr_57 a (by omega)) | replace n4 := eRg.fr n4 (fun a _ _ => fr_57 a (by omega))
      first | replace n5 := eArr.fr n5 (fr_57 _ (by omega)) | replace n5 := Eq.trans (fr_57 _ (by omega)) n5 | replace n5 := eBo.fr n5 (fr_57 _ (by omega)) | replace n5 := z_57 n5 | replace n5 := z_57 | replace n5 := ePp.fr1 n5 (fun a _ _ => fr_57 a (by omega)) | replace n5 := eNm.fr1 n5 (fun a _ _ => fr_57 a (by omega)) | replace n5 := eRg.fr n5 (fun a _ _ => fr_57 a (by omega))
      first | replace n6 := eArr.fr n6 (fr_57 _ (by omega)) | replace n6 := Eq.trans (fr_57 _ (by omega)) n6 | replace n6 := eBo.fr n6 (fr_57 _ (by omega)) | replace n6 := z_57 n6 | replace n6 := z_57 | replace n6 := ePp.fr1 n6 (fun a _ _ => fr_57 a (by omega)) | replace n6 := eNm.fr1 n6 (fun a _ _ => fr_57 a (by omega)) | replace n6 := eRg.fr n6 (fun a _ _ => fr_57 a (by omega))
      replace n7 := w_57 _ (Or.inl (Nat.le_refl _))
      first | replace n8 := eArr.fr n8 (fr_57 _ (by omega)) | replace n8 := Eq.trans (fr_57 _ (by omega)) n8 | replace n8 := eBo.fr n8 (fr_57 _ (by omega)) | replace n8 := z_57 n8 | replace n8 := z_57 | replace n8 := ePp.fr1 n8 (fun a _ _ => fr_57 a (by omega)) | replace n8 := eNm.fr1 n8 (fun a _ _ => fr_57 a (by omega)) | replace n8 := eRg.fr n8 (fun a _ _ => fr_57 a (by omega))
      first | replace n9 := eArr.fr n9 (fr_57 _ (by omega)) | replace n9 := Eq.trans (fr_57 _ (by omega)) n9 | replace n9 := eBo.fr n9 (fr_57 _ (by omega)) | replace n9 := z_57 n9 | replace n9 := z_57 | replace n9 := ePp.fr1 n9 (fun a _ _ => fr_57 a (by omega)) | replace n9 := eNm.fr1 n9 (fun a _ _ => fr_57 a (by omega)) | replace n9 := eRg.fr n9 (fun a _ _ => fr_57 a (by omega))
      first | replace hS := eArr.fr hS (fr_57 _ (by omega)) | replace hS := Eq.trans (fr_57 _ (by omega)) hS | replace hS := eBo.fr hS (fr_57 _ (by omega)) | replace hS := z_57 hS | replace hS := z_57 | replace hS := ePp.fr1 hS (fun a _ _ => fr_57 a (by omega)) | replace hS := eNm.fr1 hS (fun a _ _ => fr_57 a (by omega)) | replace hS := eRg.fr hS (fun a _ _ => fr_57 a (by omega))
      first | replace FR := eFr.trans FR (eFr.one fr_57 (by omega) (by omega)) | replace FR := eFr.trans FR (eFr.wide fr_57 (by omega) (by omega))
      refine ev_goto (tgt := 102) dX5_outgrow_58 (by decide) ?_
      exact ev_vret dX5_outgrow_102 rfl rfl (by first | exact ⟨by unfold sOutgrow; rw [← hj, c_45]; exact eRg.by r0 hP (eNm.state n0 n1 n2 n3 n4 n5 n6 n7 n8 n9) hS (fun i _ => by simp [su]) (fun f h1 h2 j => by simp [su, show f ≠ 12 by omega]) (fun j => by simp [su]), FR⟩ | exact ⟨by unfold sOutgrow; rw [← hj]; exact eRg.by r0 hP hN4 hS (fun i hi => by simp [sAddN, su, hi]) (fun f h1 h2 j => by simp [sAddN, su, show f ≠ 0 by omega, show f ≠ 6 by omega, show f ≠ 7 by omega, show f ≠ 8 by omega, show f ≠ 9 by omega, show f ≠ 10 by omega, show f ≠ 11 by omega, show f ≠ 12 by omega, show f ≠ 13 by omega]) (fun j => by simp [sAddN, su]), FR⟩) (fun _ e => Option.some.inj e) (Nat.le_of_ble_eq_true rfl) (Nat.le_of_ble_eq_true rfl)
  refine ev_aload_n dX5_outgrow_0 rfl rfl ?_
  refine ev_getfield dX5_outgrow_1 fl_X5_21 (by first | assumption | omega | exact ePp.ob (by assumption) | exact eNm.ob (by assumption) | exact eRg.ob (by assumption)) rfl ?_
  refine ev_getfield dX5_outgrow_4 fl_X5_82 (by first | assumption | omega | exact ePp.ob (by assumption) | exact eNm.ob (by assumption) | exact eRg.ob (by assumption)) rfl ?_
  refine ev_iload_n dX5_outgrow_7 rfl rfl ?_
  refine ev_ialoadA dX5_outgrow_8 (by first | assumption | omega | exact ePp.ob (by assumption) | exact eNm.ob (by assumption) | exact eRg.ob (by assumption)) (by first | assumption | omega | exact ePp.ob (by assumption) | exact eNm.ob (by assumption) | exact eRg.ob (by assumption)) ?_
  refine ev_istore_n dX5_outgrow_9 rfl (Nat.le_of_ble_eq_true rfl) ?_
  refine ev_aload_n dX5_outgrow_10 rfl rfl ?_
  refine ev_getfield dX5_outgrow_11 fl_X5_21 (by first | assumption | omega | exact ePp.ob (by assumption) | exact eNm.ob (by assumption) | exact eRg.ob (by assumption)) rfl ?_
  refine ev_getfield dX5_outgrow_14 fl_X5_150 (by first | assumption | omega | exact ePp.ob (by assumption) | exact eNm.ob (by assumption) | exact eRg.ob (by assumption)) rfl ?_
  refine ev_iload_n dX5_outgrow_17 rfl rfl ?_
  refine ev_ialoadA dX5_outgrow_18 (by first | assumption | omega | exact ePp.ob (by assumption) | exact eNm.ob (by assumption) | exact eRg.ob (by assumption)) (by first | assumption | omega | exact ePp.ob (by assumption) | exact eNm.ob (by assumption) | exact eRg.ob (by assumption)) ?_
  refine ev_iconst (v := nI 1) dX5_outgrow_19 rfl ?_
  first | ((with_reducible show eV _ _ _ (Value.int (nI _) :: Value.int (nI _) :: _) _ _ _ _); refine ev_icmp_neN (tgt := 41) dX5_outgrow_20 (by decide) (by first | exact hB _ _ | omega) (by first | exact hB _ _ | omega) (fun c_20 => ?_) (fun c_20 => ?_)) | ((with_reducible show eV _ _ _ (Value.int (-1) :: Value.int (oI _) :: _) _ _ _ _); refine ev_icmp_neO (tgt := 41) dX5_outgrow_20 (by decide) (by first | assumption | (intro k9 h9; have := (sHeirOf_lt (hj.symm.trans h9)).1; omega)) (fun c_20 => ?_) (fun c_20 => ?_)) | ((with_reducible show eV _ _ _ (Value.int (nI _) :: _) _ _ _ _); refine ev_icmp_neZN (tgt := 41) dX5_outgrow_20 (by decide) (by first | exact hB _ _ | omega) (fun c_20 => ?_) (fun c_20 => ?_)) | ((with_reducible show eV _ _ _ (_ :: Value.int (nI _) :: _) _ _ _ _); refine ev_icmp_neNZ (tgt := 41) dX5_outgrow_20 (by decide) (by first | exact hB _ _ | omega) (fun c_20 => ?_) (fun c_20 => ?_)) | (refine ev_icmp_neZZ (tgt := 41) dX5_outgrow_20 (by decide) (fun c_20 => ?_) (fun c_20 => ?_))
  · refine ev_iconst (v := -1) dX5_outgrow_41 (by decide) ?_
    refine ev_istore_n dX5_outgrow_42 rfl (Nat.le_of_ble_eq_true rfl) ?_
    first | (exact (J_43 none (by first | exact sHeirOf_a c_20 | exact sHeirOf_f c_30 | exact sHeirOf_y c_20 c_30)).sub1 ⟨rfl, rfl, rfl, rfl, trivial⟩ rfl) | (exact (J_43 (sHeir σ (σ 9 k)) (by first | exact sHeirOf_a c_20 | exact sHeirOf_f c_30 | exact sHeirOf_y c_20 c_30)).sub1 ⟨rfl, rfl, rfl, rfl, trivial⟩ rfl)
  · refine ev_aload_n dX5_outgrow_23 rfl rfl ?_
    refine ev_getfield dX5_outgrow_24 fl_X5_21 (by first | assumption | omega | exact ePp.ob (by assumption) | exact eNm.ob (by assumption) | exact eRg.ob (by assumption)) rfl ?_
    refine ev_callVi dX5_outgrow_27 (c_X2_isFull (by first | assumption | omega | exact ePp.ob (by assumption) | exact eNm.ob (by assumption) | exact eRg.ob (by assumption)) (by first | assumption | omega | exact ePp.ob (by assumption) | exact eNm.ob (by assumption) | exact eRg.ob (by assumption))) rfl lk_X5_70 (by first | assumption | omega | exact ePp.ob (by assumption) | exact eNm.ob (by assumption) | exact eRg.ob (by assumption)) ⟨Nat.le_of_ble_eq_true rfl, Nat.le_of_ble_eq_true rfl⟩ rfl (Nat.le_of_ble_eq_true rfl) ⟨Nat.le_of_ble_eq_true rfl, Nat.le_of_ble_eq_true rfl⟩ (eRo ?_)
    first | ((with_reducible show eV _ _ _ (Value.int (bI _) :: _) _ _ _ _); refine ev_if_neB (tgt := 41) dX5_outgrow_30 (by decide) (fun c_30 => ?_) (fun c_30 => ?_)) | ((with_reducible show eV _ _ _ (Value.int (nI _) :: _) _ _ _ _); refine ev_if_neN (tgt := 41) dX5_outgrow_30 (by decide) (by first | exact hB _ _ | omega) (fun c_30 => ?_) (fun c_30 => ?_)) | (refine ev_if_neZ (tgt := 41) dX5_outgrow_30 (by decide) (fun c_30 => ?_) (fun c_30 => ?_))
    · refine ev_iconst (v := -1) dX5_outgrow_41 (by decide) ?_
      refine ev_istore_n dX5_outgrow_42 rfl (Nat.le_of_ble_eq_true rfl) ?_
      first | (exact (J_43 none (by first | exact sHeirOf_a c_20 | exact sHeirOf_f c_30 | exact sHeirOf_y c_20 c_30)).sub1 ⟨rfl, rfl, rfl, rfl, trivial⟩ rfl) | (exact (J_43 (sHeir σ (σ 9 k)) (by first | exact sHeirOf_a c_20 | exact sHeirOf_f c_30 | exact sHeirOf_y c_20 c_30)).sub1 ⟨rfl, rfl, rfl, rfl, trivial⟩ rfl)
    · refine ev_aload_n dX5_outgrow_33 rfl rfl ?_
      refine ev_iload_n dX5_outgrow_34 rfl rfl ?_
      refine ev_callVi dX5_outgrow_35 (c_X5_heirOf hR hO hw.1) rfl lk_X5_163 (by first | assumption | omega | exact ePp.ob (by assumption) | exact eNm.ob (by assumption) | exact eRg.ob (by assumption)) ⟨Nat.le_of_ble_eq_true rfl, Nat.le_of_ble_eq_true rfl⟩ rfl (Nat.le_of_ble_eq_true rfl) ⟨Nat.le_of_ble_eq_true rfl, Nat.le_of_ble_eq_true rfl⟩ (eRo ?_)
      refine ev_goto (tgt := 42) dX5_outgrow_38 (by decide) ?_
      refine ev_istore_n dX5_outgrow_42 rfl (Nat.le_of_ble_eq_true rfl) ?_
      first | (exact (J_43 none (by first | exact sHeirOf_a c_20 | exact sHeirOf_f c_30 | exact sHeirOf_y c_20 c_30)).sub1 ⟨rfl, rfl, rfl, rfl, trivial⟩ rfl) | (exact (J_43 (sHeir σ (σ 9 k)) (by first | exact sHeirOf_a c_20 | exact sHeirOf_f c_30 | exact sHeirOf_y c_20 c_30)).sub1 ⟨rfl, rfl, rfl, rfl, trivial⟩ rfl)
theorem sEnd_dead {τ : St} {k : Nat} (h : sAlive τ k = false) : sEndStep τ k = τ ∧ sEndQ τ k = 0 := by unfold sEndStep sEndQ; rw [if_pos h, if_pos h]; exact ⟨rfl, rfl⟩
theorem sEnd_forg {τ : St} {k : Nat} (h : sAlive τ k = true) (h2 : τ 14 1 ≤ τ 0 2 - τ 11 k) : sEndStep τ k = su τ 12 k 2 ∧ sEndQ τ k = 1 := by
  have h0 : ¬ sAlive τ k = false := by rw [h]; decide
  unfold sEndStep sEndQ; rw [if_neg h0, if_neg h0, if_pos h2, if_pos h2]; exact ⟨rfl, rfl⟩
theorem sEnd_out {τ : St} {k : Nat} (h : sAlive τ k = true) (h2 : τ 0 2 - τ 11 k < τ 14 1) (h3 : 4 * τ 14 2 * τ 6 k < τ 1 (τ 9 k)) : sEndStep τ k = sOutgrow τ k ∧ sEndQ τ k = 1 := by
  have h0 : ¬ sAlive τ k = false := by rw [h]; decide
  unfold sEndStep sEndQ; rw [if_neg h0, if_neg h0, if_neg (Nat.not_le.mpr h2), if_neg (Nat.not_le.mpr h2), if_pos h3, if_pos h3]; exact ⟨rfl, rfl⟩
theorem sEnd_stay {τ : St} {k : Nat} (h : sAlive τ k = true) (h2 : τ 0 2 - τ 11 k < τ 14 1) (h3 : τ 1 (τ 9 k) ≤ 4 * τ 14 2 * τ 6 k) : sEndStep τ k = τ ∧ sEndQ τ k = 0 := by
  have h0 : ¬ sAlive τ k = false := by rw [h]; decide
  unfold sEndStep sEndQ; rw [if_neg h0, if_neg h0, if_neg (Nat.not_le.mpr h2), if_neg (Nat.not_le.mpr h2), if_neg (Nat.not_lt.mpr h3), if_neg (Nat.not_lt.mpr h3)]; exact ⟨rfl, rfl⟩
theorem sEndN_lt (σ : St) : ∀ k, sEndN σ k ≤ k
  | 0 => Nat.le_refl 0
  | k + 1 => by
    have h := sEndN_lt σ k
    have h2 : sEndQ (sEnd σ k) k ≤ 1 := by
      unfold sEndQ
      split
      · omega
      split
      · omega
      split <;> omega
    rw [sEndN]; omega
set_option maxHeartbeats 4000000 in
set_option maxRecDepth 20000 in
theorem c_X5_endNames {h : eH} {n r T : Nat} {σ : St} (hR : eRg h r σ) (hI : eIv σ T) (hT : T < 2 ^ 30) : kX5_endNames [.ref r] h n (.inl (some (.int (nI (sEndN σ (σ 0 1))))), (fun g => eRg g r (sEnd σ (σ 0 1)) ∧ eFr h g r (r + 17)), some n) 0 0 := by
  refine eM.of RX5 "endNames" [(0, .ref r)] pn_X5 rfl rfl (Nat.le_of_ble_eq_true rfl) rfl ?_
  have hz2 := hI.1.2.1
  obtain ⟨r0, hP, hN, hS⟩ := id hR
  obtain ⟨n0, -⟩ := id hN
  have FR0 : eFr h h r (r + 17) := eFr.rf
  refine ev_iconst (v := nI 0) dX5_endNames_0 rfl ?_
  refine ev_istore_n dX5_endNames_1 rfl (Nat.le_of_ble_eq_true rfl) ?_
  refine ev_aload_n dX5_endNames_2 rfl rfl ?_
  refine ev_getfield dX5_endNames_3 fl_X5_21 (by first | assumption | omega | exact ePp.ob (by assumption) | exact eNm.ob (by assumption) | exact eRg.ob (by assumption)) rfl ?_
  refine ev_getfield dX5_endNames_6 fl_X5_45 (by first | assumption | omega | exact ePp.ob (by assumption) | exact eNm.ob (by assumption) | exact eRg.ob (by assumption)) rfl ?_
  refine ev_istore_n dX5_endNames_9 rfl (Nat.le_of_ble_eq_true rfl) ?_
  refine ev_iconst (v := nI 0) dX5_endNames_10 rfl ?_
  refine ev_istore_n dX5_endNames_11 rfl (Nat.le_of_ble_eq_true rfl) ?_
  have H_12 : ∀ (d_12 : Nat) (k e : Nat) (g : eH), d_12 = σ 0 1 - k → (k ≤ σ 0 1) → (e = sEndN σ k) → (eRg g r (sEnd σ k)) → (eFr h g r (r + 17)) → eV mX5_endNames 12 [(0, .ref r), (1, .int (nI e)), (2, .int (nI (σ 0 1))), (3, .int (nI k))] [] (g, n, 0, 0) (.inl (some (.int (nI (sEndN σ (σ 0 1))))), (fun g => eRg g r (sEnd σ (σ 0 1)) ∧ eFr h g r (r + 17)), some n) 0 0 := by
    intro d_12
    induction d_12 using Nat.strongRecOn with
    | _ d_12 ih_12 =>
    intro k e g hd_12 hk he hg FR
    clear r0 hP hN hS n0
    have hE := hI.end_ hk
    obtain ⟨τ, hτ⟩ : ∃ τ, τ = sEnd σ k := ⟨_, rfl⟩
    rw [← hτ] at hg hE
    have hO := hE.1.ok hT
    have hB : eB τ := hO.1
    have hz := hO.2.1
    have hz3 := hO.2.2.1
    obtain ⟨r0, hP, hN, hS⟩ := id hg
    obtain ⟨p0, p1, p2, p3, p4, p5⟩ := id hP
    obtain ⟨n0, n1, n2, n3, n4, n5, n6, n7, n8, n9⟩ := id hN
    refine ev_iload_n dX5_endNames_12 rfl rfl ?_
    refine ev_iload_n dX5_endNames_13 rfl rfl ?_
    first | ((with_reducible show eV _ _ _ (Value.int (nI _) :: Value.int (nI _) :: _) _ _ _ _); refine ev_icmp_geN (tgt := 109) dX5_endNames_14 (by decide) (by first | exact hB _ _ | omega | exact Nat.lt_of_le_of_lt (Nat.sub_le _ _) (hB _ _)) (by first | exact hB _ _ | omega | exact Nat.lt_of_le_of_lt (Nat.sub_le _ _) (hB _ _)) (fun c_14 => ?_) (fun c_14 => ?_)) | ((with_reducible show eV _ _ _ (Value.int (nI _) :: _) _ _ _ _); refine ev_icmp_geZN (tgt := 109) dX5_endNames_14 (by decide) (by first | exact hB _ _ | omega | exact Nat.lt_of_le_of_lt (Nat.sub_le _ _) (hB _ _)) (fun c_14 => ?_) (fun c_14 => ?_)) | ((with_reducible show eV _ _ _ (_ :: Value.int (nI _) :: _) _ _ _ _); refine ev_icmp_geNZ (tgt := 109) dX5_endNames_14 (by decide) (by first | exact hB _ _ | omega | exact Nat.lt_of_le_of_lt (Nat.sub_le _ _) (hB _ _)) (fun c_14 => ?_) (fun c_14 => ?_)) | (refine ev_icmp_geZZ (tgt := 109) dX5_endNames_14 (by decide) (fun c_14 => ?_) (fun c_14 => ?_))
    · refine ev_iload_n dX5_endNames_109 rfl rfl ?_
      exact ev_iret dX5_endNames_110 rfl rfl (by exact nR (by have z : k = σ 0 1 := (by omega); rw [← z, he])) (by have z : k = σ 0 1 := (by omega); exact ⟨by rw [← z, ← hτ]; exact hg, FR⟩) (fun _ e => Option.some.inj e) (Nat.le_of_ble_eq_true rfl) (Nat.le_of_ble_eq_true rfl)
    · have hkt : k < τ 0 1 := by omega
      have hw := hO.2.2.2.1 k hkt
      have hmu : 4 * τ 14 2 * τ 6 k ≤ 144 := Nat.mul_le_mul (show 4 * τ 14 2 ≤ 36 by have := hO.2.2.2.2.2.2; omega) hw.2.2.2.1
      refine ev_aload_n dX5_endNames_17 rfl rfl ?_
      refine ev_getfield dX5_endNames_18 fl_X5_21 (by first | assumption | omega | exact ePp.ob (by assumption) | exact eNm.ob (by assumption) | exact eRg.ob (by assumption)) rfl ?_
      refine ev_iload_n dX5_endNames_21 rfl rfl ?_
      refine ev_callVi dX5_endNames_22 (c_X2_isAlive hN hB hkt) rfl lk_X5_89 (by first | assumption | omega | exact ePp.ob (by assumption) | exact eNm.ob (by assumption) | exact eRg.ob (by assumption)) ⟨Nat.le_of_ble_eq_true rfl, Nat.le_of_ble_eq_true rfl⟩ rfl (Nat.le_of_ble_eq_true rfl) ⟨Nat.le_of_ble_eq_true rfl, Nat.le_of_ble_eq_true rfl⟩ (eRo ?_)
      first | ((with_reducible show eV _ _ _ (Value.int (bI _) :: _) _ _ _ _); refine ev_if_neB (tgt := 31) dX5_endNames_25 (by decide) (fun c_25 => ?_) (fun c_25 => ?_)) | ((with_reducible show eV _ _ _ (Value.int (nI _) :: _) _ _ _ _); refine ev_if_neN (tgt := 31) dX5_endNames_25 (by decide) (by first | exact hB _ _ | omega | exact Nat.lt_of_le_of_lt (Nat.sub_le _ _) (hB _ _)) (fun c_25 => ?_) (fun c_25 => ?_)) | (refine ev_if_neZ (tgt := 31) dX5_endNames_25 (by decide) (fun c_25 => ?_) (fun c_25 => ?_))
      · refine ev_aload_n dX5_endNames_31 rfl rfl ?_
        refine ev_getfield dX5_endNames_32 fl_X5_29 (by first | assumption | omega | exact ePp.ob (by assumption) | exact eNm.ob (by assumption) | exact eRg.ob (by assumption)) rfl ?_
        refine ev_aload_n dX5_endNames_35 rfl rfl ?_
        refine ev_getfield dX5_endNames_36 fl_X5_21 (by first | assumption | omega | exact ePp.ob (by assumption) | exact eNm.ob (by assumption) | exact eRg.ob (by assumption)) rfl ?_
        refine ev_getfield dX5_endNames_39 fl_X5_147 (by first | assumption | omega | exact ePp.ob (by assumption) | exact eNm.ob (by assumption) | exact eRg.ob (by assumption)) rfl ?_
        refine ev_iload_n dX5_endNames_42 rfl rfl ?_
        refine ev_ialoadA dX5_endNames_43 (by first | assumption | omega | exact ePp.ob (by assumption) | exact eNm.ob (by assumption) | exact eRg.ob (by assumption)) (by first | assumption | omega | exact ePp.ob (by assumption) | exact eNm.ob (by assumption) | exact eRg.ob (by assumption)) ?_
        first | refine ev_isubN dX5_endNames_44 (by first | assumption | omega | exact ePp.ob (by assumption) | exact eNm.ob (by assumption) | exact eRg.ob (by assumption)) ?_ | refine ev_isub dX5_endNames_44 ?_
        refine ev_aload_n dX5_endNames_45 rfl rfl ?_
        refine ev_getfield dX5_endNames_46 fl_X5_25 (by first | assumption | omega | exact ePp.ob (by assumption) | exact eNm.ob (by assumption) | exact eRg.ob (by assumption)) rfl ?_
        refine ev_iconst (v := nI 1) dX5_endNames_49 rfl ?_
        refine ev_ialoadA dX5_endNames_50 (by first | assumption | omega | exact ePp.ob (by assumption) | exact eNm.ob (by assumption) | exact eRg.ob (by assumption)) (by first | assumption | omega | exact ePp.ob (by assumption) | exact eNm.ob (by assumption) | exact eRg.ob (by assumption)) ?_
        first | ((with_reducible show eV _ _ _ (Value.int (nI _) :: Value.int (nI _) :: _) _ _ _ _); refine ev_icmp_ltN (tgt := 70) dX5_endNames_51 (by decide) (by first | exact hB _ _ | omega | exact Nat.lt_of_le_of_lt (Nat.sub_le _ _) (hB _ _)) (by first | exact hB _ _ | omega | exact Nat.lt_of_le_of_lt (Nat.sub_le _ _) (hB _ _)) (fun c_51 => ?_) (fun c_51 => ?_)) | ((with_reducible show eV _ _ _ (Value.int (nI _) :: _) _ _ _ _); refine ev_icmp_ltZN (tgt := 70) dX5_endNames_51 (by decide) (by first | exact hB _ _ | omega | exact Nat.lt_of_le_of_lt (Nat.sub_le _ _) (hB _ _)) (fun c_51 => ?_) (fun c_51 => ?_)) | ((with_reducible show eV _ _ _ (_ :: Value.int (nI _) :: _) _ _ _ _); refine ev_icmp_ltNZ (tgt := 70) dX5_endNames_51 (by decide) (by first | exact hB _ _ | omega | exact Nat.lt_of_le_of_lt (Nat.sub_le _ _) (hB _ _)) (fun c_51 => ?_) (fun c_51 => ?_)) | (refine ev_icmp_ltZZ (tgt := 70) dX5_endNames_51 (by decide) (fun c_51 => ?_) (fun c_51 => ?_))
        · refine ev_aload_n dX5_endNames_70 rfl rfl ?_
          refine ev_getfield dX5_endNames_71 fl_X5_12 (by first | assumption | omega | exact ePp.ob (by assumption) | exact eNm.ob (by assumption) | exact eRg.ob (by assumption)) rfl ?_
          refine ev_getfield dX5_endNames_74 fl_X5_153 (by first | assumption | omega | exact ePp.ob (by assumption) | exact eNm.ob (by assumption) | exact eRg.ob (by assumption)) rfl ?_
          refine ev_aload_n dX5_endNames_77 rfl rfl ?_
          refine ev_getfield dX5_endNames_78 fl_X5_21 (by first | assumption | omega | exact ePp.ob (by assumption) | exact eNm.ob (by assumption) | exact eRg.ob (by assumption)) rfl ?_
          refine ev_getfield dX5_endNames_81 fl_X5_82 (by first | assumption | omega | exact ePp.ob (by assumption) | exact eNm.ob (by assumption) | exact eRg.ob (by assumption)) rfl ?_
          refine ev_iload_n dX5_endNames_84 rfl rfl ?_
          refine ev_ialoadA dX5_endNames_85 (by first | assumption | omega | exact ePp.ob (by assumption) | exact eNm.ob (by assumption) | exact eRg.ob (by assumption)) (by first | assumption | omega | exact ePp.ob (by assumption) | exact eNm.ob (by assumption) | exact eRg.ob (by assumption)) ?_
          refine ev_ialoadA dX5_endNames_86 (by first | assumption | omega | exact ePp.ob (by assumption) | exact eNm.ob (by assumption) | exact eRg.ob (by assumption)) (by first | assumption | omega | exact ePp.ob (by assumption) | exact eNm.ob (by assumption) | exact eRg.ob (by assumption)) ?_
          refine ev_aload_n dX5_endNames_87 rfl rfl ?_
          refine ev_iload_n dX5_endNames_88 rfl rfl ?_
          refine ev_callVi dX5_endNames_89 (c_X5_oldestFor hg hO hkt) rfl lk_X5_156 (by first | assumption | omega | exact ePp.ob (by assumption) | exact eNm.ob (by assumption) | exact eRg.ob (by assumption)) ⟨Nat.le_of_ble_eq_true rfl, Nat.le_of_ble_eq_true rfl⟩ rfl (Nat.le_of_ble_eq_true rfl) ⟨Nat.le_of_ble_eq_true rfl, Nat.le_of_ble_eq_true rfl⟩ (eRo ?_)
          first | ((with_reducible show eV _ _ _ (Value.int (nI _) :: Value.int (nI _) :: _) _ _ _ _); refine ev_icmp_leN (tgt := 103) dX5_endNames_92 (by decide) (by first | exact hB _ _ | omega | exact Nat.lt_of_le_of_lt (Nat.sub_le _ _) (hB _ _)) (by first | exact hB _ _ | omega | exact Nat.lt_of_le_of_lt (Nat.sub_le _ _) (hB _ _)) (fun c_92 => ?_) (fun c_92 => ?_)) | ((with_reducible show eV _ _ _ (Value.int (nI _) :: _) _ _ _ _); refine ev_icmp_leZN (tgt := 103) dX5_endNames_92 (by decide) (by first | exact hB _ _ | omega | exact Nat.lt_of_le_of_lt (Nat.sub_le _ _) (hB _ _)) (fun c_92 => ?_) (fun c_92 => ?_)) | ((with_reducible show eV _ _ _ (_ :: Value.int (nI _) :: _) _ _ _ _); refine ev_icmp_leNZ (tgt := 103) dX5_endNames_92 (by decide) (by first | exact hB _ _ | omega | exact Nat.lt_of_le_of_lt (Nat.sub_le _ _) (hB _ _)) (fun c_92 => ?_) (fun c_92 => ?_)) | (refine ev_icmp_leZZ (tgt := 103) dX5_endNames_92 (by decide) (fun c_92 => ?_) (fun c_92 => ?_))
          · first | refine ev_iincN dX5_endNames_103 rfl (Nat.le_of_ble_eq_true rfl) ?_ | refine ev_iinc dX5_endNames_103 rfl rfl (Nat.le_of_ble_eq_true rfl) ?_
            refine ev_goto (tgt := 12) dX5_endNames_106 (by decide) ?_
            first | (exact (ih_12 _ (by omega) (k + 1) e _ rfl (by first | omega | assumption | rfl) (by first | (rw [sEndN, ← hτ, (sEnd_dead c_25).2]; exact he) | (rw [sEndN, ← hτ, (sEnd_stay c_25 c_51 c_92).2]; exact he) | (rw [sEndN, ← hτ, (sEnd_forg c_25 c_51).2, he]) | (rw [sEndN, ← hτ, (sEnd_out c_25 c_51 c_92).2, he])) (by first | (rw [sEnd, ← hτ, (sEnd_dead c_25).1]; exact hg) | (rw [sEnd, ← hτ, (sEnd_stay c_25 c_51 c_92).1]; exact hg) | (rw [sEnd, ← hτ, (sEnd_forg c_25 c_51).1]; exact eRg.by r0 hP (eNm.state n0 n1 n2 n3 n4 n5 n6 n7 n8 n9) hS (fun i _ => by simp [su]) (fun f h1 h2 j => by simp [su, show f ≠ 12 by omega]) (fun j => by simp [su])) | (rw [sEnd, ← hτ, (sEnd_out c_25 c_51 c_92).1]; exact hg)) (by first | omega | assumption | rfl)).sub1 ⟨rfl, rfl, rfl, rfl, trivial⟩ rfl) | (exact (ih_12 _ (by omega) (k + 1) (e + 1) _ rfl (by first | omega | assumption | rfl) (by first | (rw [sEndN, ← hτ, (sEnd_dead c_25).2]; exact he) | (rw [sEndN, ← hτ, (sEnd_stay c_25 c_51 c_92).2]; exact he) | (rw [sEndN, ← hτ, (sEnd_forg c_25 c_51).2, he]) | (rw [sEndN, ← hτ, (sEnd_out c_25 c_51 c_92).2, he])) (by first | (rw [sEnd, ← hτ, (sEnd_dead c_25).1]; exact hg) | (rw [sEnd, ← hτ, (sEnd_stay c_25 c_51 c_92).1]; exact hg) | (rw [sEnd, ← hτ, (sEnd_forg c_25 c_51).1]; exact eRg.by r0 hP (eNm.state n0 n1 n2 n3 n4 n5 n6 n7 n8 n9) hS (fun i _ => by simp [su]) (fun f h1 h2 j => by simp [su, show f ≠ 12 by omega]) (fun j => by simp [su])) | (rw [sEnd, ← hτ, (sEnd_out c_25 c_51 c_92).1]; exact hg)) (by first | omega | assumption | rfl)).sub1 ⟨rfl, rfl, rfl, rfl, trivial⟩ rfl)
          · refine ev_aload_n dX5_endNames_95 rfl rfl ?_
            refine ev_iload_n dX5_endNames_96 rfl rfl ?_
            refine ev_callVv dX5_endNames_97 (c_X5_outgrow hg hE.1 hT hkt) rfl lk_X5_159 (by first | assumption | omega | exact ePp.ob (by assumption) | exact eNm.ob (by assumption) | exact eRg.ob (by assumption)) ⟨Nat.le_of_ble_eq_true rfl, Nat.le_of_ble_eq_true rfl⟩ rfl (Nat.le_of_ble_eq_true rfl) ⟨Nat.le_of_ble_eq_true rfl, Nat.le_of_ble_eq_true rfl⟩ (fun g_97 hg_97 => ?_)
            obtain ⟨w_97, fr_97⟩ := hg_97
            replace hg := w_97
            first | replace FR := eFr.trans FR (eFr.one fr_97 (by omega) (by omega)) | replace FR := eFr.trans FR (eFr.wide fr_97 (by omega) (by omega))
            first | refine ev_iincN dX5_endNames_100 rfl (Nat.le_of_ble_eq_true rfl) ?_ | refine ev_iinc dX5_endNames_100 rfl rfl (Nat.le_of_ble_eq_true rfl) ?_
            first | refine ev_iincN dX5_endNames_103 rfl (Nat.le_of_ble_eq_true rfl) ?_ | refine ev_iinc dX5_endNames_103 rfl rfl (Nat.le_of_ble_eq_true rfl) ?_
            refine ev_goto (tgt := 12) dX5_endNames_106 (by decide) ?_
            first | (exact (ih_12 _ (by omega) (k + 1) e _ rfl (by first | omega | assumption | rfl) (by first | (rw [sEndN, ← hτ, (sEnd_dead c_25).2]; exact he) | (rw [sEndN, ← hτ, (sEnd_stay c_25 c_51 c_92).2]; exact he) | (rw [sEndN, ← hτ, (sEnd_forg c_25 c_51).2, he]) | (rw [sEndN, ← hτ, (sEnd_out c_25 c_51 c_92).2, he])) (by first | (rw [sEnd, ← hτ, (sEnd_dead c_25).1]; exact hg) | (rw [sEnd, ← hτ, (sEnd_stay c_25 c_51 c_92).1]; exact hg) | (rw [sEnd, ← hτ, (sEnd_forg c_25 c_51).1]; exact eRg.by r0 hP (eNm.state n0 n1 n2 n3 n4 n5 n6 n7 n8 n9) hS (fun i _ => by simp [su]) (fun f h1 h2 j => by simp [su, show f ≠ 12 by omega]) (fun j => by simp [su])) | (rw [sEnd, ← hτ, (sEnd_out c_25 c_51 c_92).1]; exact hg)) (by first | omega | assumption | rfl)).sub1 ⟨rfl, rfl, rfl, rfl, trivial⟩ rfl) | (exact (ih_12 _ (by omega) (k + 1) (e + 1) _ rfl (by first | omega | assumption | rfl) (by first | (rw [sEndN, ← hτ, (sEnd_dead c_25).2]; exact he) | (rw [sEndN, ← hτ, (sEnd_stay c_25 c_51 c_92).2]; exact he) | (rw [sEndN, ← hτ, (sEnd_forg c_25 c_51).2, he]) | (rw [sEndN, ← hτ, (sEnd_out c_25 c_51 c_92).2, he])) (by first | (rw [sEnd, ← hτ, (sEnd_dead c_25).1]; exact hg) | (rw [sEnd, ← hτ, (sEnd_stay c_25 c_51 c_92).1]; exact hg) | (rw [sEnd, ← hτ, (sEnd_forg c_25 c_51).1]; exact eRg.by r0 hP (eNm.state n0 n1 n2 n3 n4 n5 n6 n7 n8 n9) hS (fun i _ => by simp [su]) (fun f h1 h2 j => by simp [su, show f ≠ 12 by omega]) (fun j => by simp [su])) | (rw [sEnd, ← hτ, (sEnd_out c_25 c_51 c_92).1]; exact hg)) (by first | omega | assumption | rfl)).sub1 ⟨rfl, rfl, rfl, rfl, trivial⟩ rfl)
        · refine ev_aload_n dX5_endNames_54 rfl rfl ?_
          refine ev_getfield dX5_endNames_55 fl_X5_21 (by first | assumption | omega | exact ePp.ob (by assumption) | exact eNm.ob (by assumption) | exact eRg.ob (by assumption)) rfl ?_
          refine ev_getfield dX5_endNames_58 fl_X5_150 (by first | assumption | omega | exact ePp.ob (by assumption) | exact eNm.ob (by assumption) | exact eRg.ob (by assumption)) rfl ?_
          refine ev_iload_n dX5_endNames_61 rfl rfl ?_
          refine ev_iconst (v := nI 2) dX5_endNames_62 rfl ?_
          refine ev_iastoreA dX5_endNames_63 (by first | assumption | omega | exact ePp.ob (by assumption) | exact eNm.ob (by assumption) | exact eRg.ob (by assumption)) (by first | assumption | omega | exact ePp.ob (by assumption) | exact eNm.ob (by assumption) | exact eRg.ob (by assumption)) (fun g_63 fr_63 w_63 => ?_)
          first | replace r0 := eArr.fr r0 (fr_63 _ (by omega)) | replace r0 := Eq.trans (fr_63 _ (by omega)) r0 | replace r0 := eBo.fr r0 (fr_63 _ (by omega)) | replace r0 := z_63 r0 | replace r0 := z_63 | replace r0 := ePp.fr1 r0 (fun a _ _ => fr_63 a (by omega)) | replace r0 := eNm.fr1 r0 (fun a _ _ => fr_63 a (by omega)) | replace r0 := eRg.fr r0 (fun a _ _ => fr_63 a (by omega))
          first | replace hP := eArr.fr hP (fr_63 _ (by omega)) | replace hP := Eq.trans (fr_63 _ (by omega)) hP | replace hP := eBo.fr hP (fr_63 _ (by omega)) | replace hP := z_63 hP | replace hP := z_63 | replace hP := ePp.fr1 hP (fun a _ _ => fr_63 a (by omega)) | replace hP := eNm.fr1 hP (fun a _ _ => fr_63 a (by omega)) | replace hP := eRg.fr hP (fun a _ _ => fr_63 a (by omega))
          first | replace n0 := eArr.fr n0 (fr_63 _ (by omega)) | replace n0 := Eq.trans (fr_63 _ (by omega)) n0 | replace n0 := eBo.fr n0 (fr_63 _ (by omega)) | replace n0 := z_63 n0 | replace n0 := z_63 | replace n0 := ePp.fr1 n0 (fun a _ _ => fr_63 a (by omega)) | replace n0 := eNm.fr1 n0 (fun a _ _ => fr_63 a (by omega)) | replace n0 := eRg.fr n0 (fun a _ _ => fr_63 a (by omega))
          first | replace n1 := eArr.fr n1 (fr_63 _ (by omega)) | replace n1 := Eq.trans (fr_63 _ (by omega)) n1 | replace n1 := eBo.fr n1 (fr_63 _ (by omega)) | replace n1 := z_63 n1 | replace n1 := z_63 | replace n1 := ePp.fr1 n1 (fun a _ _ => fr_63 a (by omega)) | replace n1 := eNm.fr1 n1 (fun a _ _ => fr_63 a (by omega)) | replace n1 := eRg.fr n1 (fun a _ _ => fr_63 a (by omega))
          first | replace n2 := eArr.fr n2 (fr_63 _ (by omega)) | replace n2 := Eq.trans (fr_63 _ (by omega)) n2 | replace n2 := eBo.fr n2 (fr_63 _ (by omega)) | replace n2 := z_63 n2 | replace n2 := z_63 | replace n2 := ePp.fr1 n2 (fun a _ _ => fr_63 a (by omega)) | replace n2 := eNm.fr1 n2 (fun a _ _ => fr_63 a (by omega)) | replace n2 := eRg.fr n2 (fun a _ _ => fr_63 a (by omega))
          first | replace n3 := eArr.fr n3 (fr_63 _ (by omega)) | replace n3 := Eq.trans (fr_63 _ (by omega)) n3 | replace n3 := eBo.fr n3 (fr_63 _ (by omega)) | replace n3 := z_63 n3 | replace n3 := z_63 | replace n3 := ePp.fr1 n3 (fun a _ _ => fr_63 a (by omega)) | replace n3 := eNm.fr1 n3 (fun a _ _ => fr_63 a (by omega)) | replace n3 := eRg.fr n3 (fun a _ _ => fr_63 a (by omega))
          first | replace n4 := eArr.fr n4 (fr_63 _ (by omega)) | replace n4 := Eq.trans (fr_63 _ (by omega)) n4 | replace n4 := eBo.fr n4 (fr_63 _ (by omega)) | replace n4 := z_63 n4 | replace n4 := z_63 | replace n4 := ePp.fr1 n4 (fun a _ _ => fr_63 a (by omega)) | replace n4 := eNm.fr1 n4 (fun a _ _ => fr_63 a (by omega)) | replace n4 := eRg.fr n4 (fun a _ _ => fr_63 a (by omega))
          first | replace n5 := eArr.fr n5 (fr_63 _ (by omega)) | replace n5 := Eq.trans (fr_63 _ (by omega)) n5 | replace n5 := eBo.fr n5 (fr_63 _ (by omega)) | replace n5 := z_63 n5 | replace n5 := z_63 | replace n5 := ePp.fr1 n5 (fun a _ _ => fr_63 a (by omega)) | replace n5 := eNm.fr1 n5 (fun a _ _ => fr_63 a (by omega)) | replace n5 := eRg.fr n5 (fun a _ _ => fr_63 a (by omega))
          first | replace n6 := eArr.fr n6 (fr_63 _ (by omega)) | replace n6 := Eq.trans (fr_63 _ (by omega)) n6 | replace n6 := eBo.fr n6 (fr_63 _ (by omega)) | replace n6 := z_63 n6 | replace n6 := z_63 | replace n6 := ePp.fr1 n6 (fun a _ _ => fr_63 a (by omega)) | replace n6 := eNm.fr1 n6 (fun a _ _ => fr_63 a (by omega)) | replace n6 := eRg.fr n6 (fun a _ _ => fr_63 a (by omega))
          replace n7 := w_63 _ (Or.inl (Nat.le_refl _))
          first | replace n8 := eArr.fr n8 (fr_63 _ (by omega)) | replace n8 := Eq.trans (fr_63 _ (by omega)) n8 | replace n8 := eBo.fr n8 (fr_63 _ (by omega)) | replace n8 := z_63 n8 | replace n8 := z_63 | replace n8 := ePp.fr1 n8 (fun a _ _ => fr_63 a (by omega)) | replace n8 := eNm.fr1 n8 (fun a _ _ => fr_63 a (by omega)) | replace n8 := eRg.fr n8 (fun a _ _ => fr_63 a (by omega))
          first | replace n9 := eArr.fr n9 (fr_63 _ (by omega)) | replace n9 := Eq.trans (fr_63 _ (by omega)) n9 | replace n9 := eBo.fr n9 (fr_63 _ (by omega)) | replace n9 := z_63 n9 | replace n9 := z_63 | replace n9 := ePp.fr1 n9 (fun a _ _ => fr_63 a (by omega)) | replace n9 := eNm.fr1 n9 (fun a _ _ => fr_63 a (by omega)) | replace n9 := eRg.fr n9 (fun a _ _ => fr_63 a (by omega))
          first | replace hS := eArr.fr hS (fr_63 _ (by omega)) | replace hS := Eq.trans (fr_63 _ (by omega)) hS | replace hS := eBo.fr hS (fr_63 _ (by omega)) | replace hS := z_63 hS | replace hS := z_63 | replace hS := ePp.fr1 hS (fun a _ _ => fr_63 a (by omega)) | replace hS := eNm.fr1 hS (fun a _ _ => fr_63 a (by omega)) | replace hS := eRg.fr hS (fun a _ _ => fr_63 a (by omega))
          first | replace FR := eFr.trans FR (eFr.one fr_63 (by omega) (by omega)) | replace FR := eFr.trans FR (eFr.wide fr_63 (by omega) (by omega))
          first | refine ev_iincN dX5_endNames_64 rfl (Nat.le_of_ble_eq_true rfl) ?_ | refine ev_iinc dX5_endNames_64 rfl rfl (Nat.le_of_ble_eq_true rfl) ?_
          refine ev_goto (tgt := 103) dX5_endNames_67 (by decide) ?_
          first | refine ev_iincN dX5_endNames_103 rfl (Nat.le_of_ble_eq_true rfl) ?_ | refine ev_iinc dX5_endNames_103 rfl rfl (Nat.le_of_ble_eq_true rfl) ?_
          refine ev_goto (tgt := 12) dX5_endNames_106 (by decide) ?_
          first | (exact (ih_12 _ (by omega) (k + 1) e _ rfl (by first | omega | assumption | rfl) (by first | (rw [sEndN, ← hτ, (sEnd_dead c_25).2]; exact he) | (rw [sEndN, ← hτ, (sEnd_stay c_25 c_51 c_92).2]; exact he) | (rw [sEndN, ← hτ, (sEnd_forg c_25 c_51).2, he]) | (rw [sEndN, ← hτ, (sEnd_out c_25 c_51 c_92).2, he])) (by first | (rw [sEnd, ← hτ, (sEnd_dead c_25).1]; exact hg) | (rw [sEnd, ← hτ, (sEnd_stay c_25 c_51 c_92).1]; exact hg) | (rw [sEnd, ← hτ, (sEnd_forg c_25 c_51).1]; exact eRg.by r0 hP (eNm.state n0 n1 n2 n3 n4 n5 n6 n7 n8 n9) hS (fun i _ => by simp [su]) (fun f h1 h2 j => by simp [su, show f ≠ 12 by omega]) (fun j => by simp [su])) | (rw [sEnd, ← hτ, (sEnd_out c_25 c_51 c_92).1]; exact hg)) (by first | omega | assumption | rfl)).sub1 ⟨rfl, rfl, rfl, rfl, trivial⟩ rfl) | (exact (ih_12 _ (by omega) (k + 1) (e + 1) _ rfl (by first | omega | assumption | rfl) (by first | (rw [sEndN, ← hτ, (sEnd_dead c_25).2]; exact he) | (rw [sEndN, ← hτ, (sEnd_stay c_25 c_51 c_92).2]; exact he) | (rw [sEndN, ← hτ, (sEnd_forg c_25 c_51).2, he]) | (rw [sEndN, ← hτ, (sEnd_out c_25 c_51 c_92).2, he])) (by first | (rw [sEnd, ← hτ, (sEnd_dead c_25).1]; exact hg) | (rw [sEnd, ← hτ, (sEnd_stay c_25 c_51 c_92).1]; exact hg) | (rw [sEnd, ← hτ, (sEnd_forg c_25 c_51).1]; exact eRg.by r0 hP (eNm.state n0 n1 n2 n3 n4 n5 n6 n7 n8 n9) hS (fun i _ => by simp [su]) (fun f h1 h2 j => by simp [su, show f ≠ 12 by omega]) (fun j => by simp [su])) | (rw [sEnd, ← hτ, (sEnd_out c_25 c_51 c_92).1]; exact hg)) (by first | omega | assumption | rfl)).sub1 ⟨rfl, rfl, rfl, rfl, trivial⟩ rfl)
      · refine ev_goto (tgt := 103) dX5_endNames_28 (by decide) ?_
        first | refine ev_iincN dX5_endNames_103 rfl (Nat.le_of_ble_eq_true rfl) ?_ | refine ev_iinc dX5_endNames_103 rfl rfl (Nat.le_of_ble_eq_true rfl) ?_
        refine ev_goto (tgt := 12) dX5_endNames_106 (by decide) ?_
        first | (exact (ih_12 _ (by omega) (k + 1) e _ rfl (by first | omega | assumption | rfl) (by first | (rw [sEndN, ← hτ, (sEnd_dead c_25).2]; exact he) | (rw [sEndN, ← hτ, (sEnd_stay c_25 c_51 c_92).2]; exact he) | (rw [sEndN, ← hτ, (sEnd_forg c_25 c_51).2, he]) | (rw [sEndN, ← hτ, (sEnd_out c_25 c_51 c_92).2, he])) (by first | (rw [sEnd, ← hτ, (sEnd_dead c_25).1]; exact hg) | (rw [sEnd, ← hτ, (sEnd_stay c_25 c_51 c_92).1]; exact hg) | (rw [sEnd, ← hτ, (sEnd_forg c_25 c_51).1]; exact eRg.by r0 hP (eNm.state n0 n1 n2 n3 n4 n5 n6 n7 n8 n9) hS (fun i _ => by simp [su]) (fun f h1 h2 j => by simp [su, show f ≠ 12 by omega]) (fun j => by simp [su])) | (rw [sEnd, ← hτ, (sEnd_out c_25 c_51 c_92).1]; exact hg)) (by first | omega | assumption | rfl)).sub1 ⟨rfl, rfl, rfl, rfl, trivial⟩ rfl) | (exact (ih_12 _ (by omega) (k + 1) (e + 1) _ rfl (by first | omega | assumption | rfl) (by first | (rw [sEndN, ← hτ, (sEnd_dead c_25).2]; exact he) | (rw [sEndN, ← hτ, (sEnd_stay c_25 c_51 c_92).2]; exact he) | (rw [sEndN, ← hτ, (sEnd_forg c_25 c_51).2, he]) | (rw [sEndN, ← hτ, (sEnd_out c_25 c_51 c_92).2, he])) (by first | (rw [sEnd, ← hτ, (sEnd_dead c_25).1]; exact hg) | (rw [sEnd, ← hτ, (sEnd_stay c_25 c_51 c_92).1]; exact hg) | (rw [sEnd, ← hτ, (sEnd_forg c_25 c_51).1]; exact eRg.by r0 hP (eNm.state n0 n1 n2 n3 n4 n5 n6 n7 n8 n9) hS (fun i _ => by simp [su]) (fun f h1 h2 j => by simp [su, show f ≠ 12 by omega]) (fun j => by simp [su])) | (rw [sEnd, ← hτ, (sEnd_out c_25 c_51 c_92).1]; exact hg)) (by first | omega | assumption | rfl)).sub1 ⟨rfl, rfl, rfl, rfl, trivial⟩ rfl)
  exact (H_12 _ 0 0 h rfl (by first | omega | assumption | rfl) (by first | omega | assumption | rfl) (by first | omega | assumption | rfl) (by first | omega | assumption | rfl)).sub1 ⟨rfl, rfl, rfl, rfl, trivial⟩ rfl

