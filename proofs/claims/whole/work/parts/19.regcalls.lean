theorem sMeant_lt {σ : St} {b m c p : Nat} (h : sMeant σ b m c = some p) : p < σ 0 0 := by
  unfold sMeant at h
  split at h
  · rename_i q hq; cases h; exact (fst_lt hq).1
  · exact (fst_lt h).1
theorem sCallW_lt {σ : St} {b m c p : Nat} (h : sCallW σ b m c = some p) : p < σ 0 0 := by
  unfold sCallW at h
  split at h
  · exact sMeant_lt h
  · cases h
theorem eRg.use {h : eH} {r : Nat} {σ : St} {k y u : Nat} (r0 : h r = some (.inr (4, [.ref (r + 1), .ref (r + 7), .ref (r + 16), .int (nI (σ 0 2)), .int (nI (σ 0 3)), .int (nI (σ 0 4)), .int (nI (σ 0 5))]))) (hP : ePp h (r + 1) σ) (hN : eNm h (r + 7) (sUse σ k y u)) (hS : eArr h (r + 16) 0 3 3 (σ 14)) : eRg h r (sUse σ k y u) := by
  refine ⟨?_, hP.to (by simp [sUse_at]) (fun f _ _ j _ => by simp [sUse_at, show f ≠ 10 by omega, show f ≠ 11 by omega, show f ≠ 12 by omega, show f ≠ 13 by omega]), hN, hS.congr (fun j _ => by simp [sUse_at])⟩
  simpa [sUse_at] using r0
theorem sCallW_b {σ : St} {b m c : Nat} (h : decide (b < 4) = false) : none = sCallW σ b m c := (if_neg (fun z => of_decide_eq_false h z.1)).symm
theorem sCallW_c {σ : St} {b m c : Nat} (h : sCode m c = false) : none = sCallW σ b m c := (if_neg (fun z => absurd z.2 (by rw [h]; decide))).symm
theorem sCallW_y {σ : St} {b m c : Nat} (h : decide (b < 4) = true) (h2 : sCode m c = true) : sMeant σ b m c = sCallW σ b m c := (if_pos ⟨of_decide_eq_true h, h2⟩).symm
set_option maxHeartbeats 4000000 in
set_option maxRecDepth 20000 in
theorem c_X5_callFor {h : eH} {n r T : Nat} {σ : St} (hR : eRg h r σ) (hI : eIv σ T) (hT : T < 2 ^ 30) {b m c : Nat} (hb : b < 2 ^ 31) (hm : m < 2 ^ 31) (hc : c < 2 ^ 31) : kX5_callFor [.ref r, .int (nI b), .int (nI m), .int (nI c)] h n (.inl (some (.int (oI (sCallW σ b m c)))), (fun g => eRg g r (sCall σ b m c) ∧ eFr h g r (r + 17)), some n) 0 0 := by
  refine eM.of RX5 "callFor" [(0, .ref r), (1, .int (nI b)), (2, .int (nI m)), (3, .int (nI c))] pn_X5 rfl rfl (Nat.le_of_ble_eq_true rfl) rfl ?_
  have hO := hI.ok hT
  have hB : eB σ := hO.1
  have hz := hO.2.1
  have hz2 := hO.2.2.1
  have FR : eFr h h r (r + 17) := eFr.rf
  obtain ⟨r0, hP, hN, hS⟩ := id hR
  obtain ⟨p0, p1, p2, p3, p4, p5⟩ := id hP
  obtain ⟨n0, n1, n2, n3, n4, n5, n6, n7, n8, n9⟩ := id hN
  have J_28 : ∀ (o : Option Nat), (o = sCallW σ b m c) → eV mX5_callFor 28 [(0, .ref r), (1, .int (nI b)), (2, .int (nI m)), (3, .int (nI c)), (4, .int (oI o))] [] (h, n, 0, 0) (.inl (some (.int (oI (sCallW σ b m c)))), (fun g => eRg g r (sCall σ b m c) ∧ eFr h g r (r + 17)), some n) 0 0 := by
    intro o hj
    refine ev_iload dX5_callFor_28 rfl ?_
    refine ev_iconst (v := -1) dX5_callFor_30 (by decide) ?_
    first | ((with_reducible show eV _ _ _ (Value.int (nI _) :: Value.int (nI _) :: _) _ _ _ _); refine ev_icmp_neN (tgt := 36) dX5_callFor_31 (by decide) (by first | exact hB _ _ | omega) (by first | exact hB _ _ | omega) (fun c_31 => ?_) (fun c_31 => ?_)) | ((with_reducible show eV _ _ _ (Value.int (-1) :: Value.int (oI _) :: _) _ _ _ _); refine ev_icmp_neO (tgt := 36) dX5_callFor_31 (by decide) (by first | assumption | (intro k9 h9; have := sCallW_lt (hj.symm.trans h9); omega) | (intro k9 h9; have := (fst_lt h9).1; omega)) (fun c_31 => ?_) (fun c_31 => ?_)) | ((with_reducible show eV _ _ _ (Value.int (nI _) :: _) _ _ _ _); refine ev_icmp_neZN (tgt := 36) dX5_callFor_31 (by decide) (by first | exact hB _ _ | omega) (fun c_31 => ?_) (fun c_31 => ?_)) | ((with_reducible show eV _ _ _ (_ :: Value.int (nI _) :: _) _ _ _ _); refine ev_icmp_neNZ (tgt := 36) dX5_callFor_31 (by decide) (by first | exact hB _ _ | omega) (fun c_31 => ?_) (fun c_31 => ?_)) | (refine ev_icmp_neZZ (tgt := 36) dX5_callFor_31 (by decide) (fun c_31 => ?_) (fun c_31 => ?_))
    · obtain ⟨p, rfl⟩ := Option.ne_none_iff_exists'.mp c_31
      have hp := sCallW_lt hj.symm
      rw [show oI (some p) = nI p from rfl]
      refine ev_aload_n dX5_callFor_36 rfl rfl ?_
      refine ev_getfield dX5_callFor_37 fl_X5_21 (by first | assumption | omega | exact ePp.ob (by assumption) | exact eNm.ob (by assumption) | exact eRg.ob (by assumption)) rfl ?_
      refine ev_iload dX5_callFor_40 rfl ?_
      refine ev_iload_n dX5_callFor_42 rfl rfl ?_
      refine ev_iload_n dX5_callFor_43 rfl rfl ?_
      refine ev_callVi dX5_callFor_44 (c_X2_aliveNameOf (by first | assumption | omega | exact ePp.ob (by assumption) | exact eNm.ob (by assumption) | exact eRg.ob (by assumption)) (by first | assumption | omega | exact ePp.ob (by assumption) | exact eNm.ob (by assumption) | exact eRg.ob (by assumption)) (by first | assumption | omega | exact ePp.ob (by assumption) | exact eNm.ob (by assumption) | exact eRg.ob (by assumption)) (by first | assumption | omega | exact ePp.ob (by assumption) | exact eNm.ob (by assumption) | exact eRg.ob (by assumption)) (by first | assumption | omega | exact ePp.ob (by assumption) | exact eNm.ob (by assumption) | exact eRg.ob (by assumption))) rfl lk_X5_99 (by first | assumption | omega | exact ePp.ob (by assumption) | exact eNm.ob (by assumption) | exact eRg.ob (by assumption)) ⟨Nat.le_of_ble_eq_true rfl, Nat.le_of_ble_eq_true rfl⟩ rfl (Nat.le_of_ble_eq_true rfl) ⟨Nat.le_of_ble_eq_true rfl, Nat.le_of_ble_eq_true rfl⟩ (eRo ?_)
      refine ev_istore dX5_callFor_47 (Nat.le_of_ble_eq_true rfl) ?_
      refine ev_iload dX5_callFor_49 rfl ?_
      refine ev_iconst (v := -1) dX5_callFor_51 (by decide) ?_
      first | ((with_reducible show eV _ _ _ (Value.int (nI _) :: Value.int (nI _) :: _) _ _ _ _); refine ev_icmp_eqN (tgt := 77) dX5_callFor_52 (by decide) (by first | exact hB _ _ | omega) (by first | exact hB _ _ | omega) (fun c_52 => ?_) (fun c_52 => ?_)) | ((with_reducible show eV _ _ _ (Value.int (-1) :: Value.int (oI _) :: _) _ _ _ _); refine ev_icmp_eqO (tgt := 77) dX5_callFor_52 (by decide) (by first | assumption | (intro k9 h9; have := sCallW_lt (hj.symm.trans h9); omega) | (intro k9 h9; have := (fst_lt h9).1; omega)) (fun c_52 => ?_) (fun c_52 => ?_)) | ((with_reducible show eV _ _ _ (Value.int (oI _) :: Value.int (nI _) :: _) _ _ _ _); refine ev_icmp_eqNO (tgt := 77) dX5_callFor_52 (by decide) (by first | exact hB _ _ | omega) (by first | assumption | (intro k9 h9; have := sCallW_lt (hj.symm.trans h9); omega) | (intro k9 h9; have := (fst_lt h9).1; omega)) (fun c_52 => ?_) (fun c_52 => ?_)) | ((with_reducible show eV _ _ _ (Value.int (nI _) :: _) _ _ _ _); refine ev_icmp_eqZN (tgt := 77) dX5_callFor_52 (by decide) (by first | exact hB _ _ | omega) (fun c_52 => ?_) (fun c_52 => ?_)) | ((with_reducible show eV _ _ _ (_ :: Value.int (nI _) :: _) _ _ _ _); refine ev_icmp_eqNZ (tgt := 77) dX5_callFor_52 (by decide) (by first | exact hB _ _ | omega) (fun c_52 => ?_) (fun c_52 => ?_)) | (refine ev_icmp_eqZZ (tgt := 77) dX5_callFor_52 (by decide) (fun c_52 => ?_) (fun c_52 => ?_))
      · refine ev_aload_n dX5_callFor_77 rfl rfl ?_
        refine ev_iload dX5_callFor_78 rfl ?_
        refine ev_aload_n dX5_callFor_80 rfl rfl ?_
        refine ev_iload dX5_callFor_81 rfl ?_
        refine ev_iload_n dX5_callFor_83 rfl rfl ?_
        refine ev_iload_n dX5_callFor_84 rfl rfl ?_
        refine ev_callVi dX5_callFor_85 (c_X5_firstBrotherNamed hR hO hp hm hc) rfl lk_X5_103 (by first | assumption | omega | exact ePp.ob (by assumption) | exact eNm.ob (by assumption) | exact eRg.ob (by assumption)) ⟨Nat.le_of_ble_eq_true rfl, Nat.le_of_ble_eq_true rfl⟩ rfl (Nat.le_of_ble_eq_true rfl) ⟨Nat.le_of_ble_eq_true rfl, Nat.le_of_ble_eq_true rfl⟩ (eRo ?_)
        refine ev_callVv dX5_callFor_88 (c_X5_mixUp hR hB hp (fun q hq => (fst_lt hq).1)) rfl lk_X5_124 (by first | assumption | omega | exact ePp.ob (by assumption) | exact eNm.ob (by assumption) | exact eRg.ob (by assumption)) ⟨Nat.le_of_ble_eq_true rfl, Nat.le_of_ble_eq_true rfl⟩ rfl (Nat.le_of_ble_eq_true rfl) ⟨Nat.le_of_ble_eq_true rfl, Nat.le_of_ble_eq_true rfl⟩ (fun g_88 hg_88 => ?_)
        obtain ⟨w_88, fr_88⟩ := hg_88
        replace hR := w_88
        first | replace FR := eFr.trans FR (eFr.one fr_88 (by omega) (by omega)) | replace FR := eFr.trans FR (eFr.wide fr_88 (by omega) (by omega))
        refine ev_iload dX5_callFor_91 rfl ?_
        exact ev_iret dX5_callFor_93 rfl rfl (by exact oR hj.symm) (by first | exact ⟨by unfold sCall; rw [← hj]; simp only [hk]; exact eRg.use r0 hP hN hS, FR⟩ | exact ⟨by unfold sCall; rw [← hj]; simp only [c_52]; exact hR, FR⟩) (fun _ e => Option.some.inj e) (Nat.le_of_ble_eq_true rfl) (Nat.le_of_ble_eq_true rfl)
      · obtain ⟨k, hk⟩ := Option.ne_none_iff_exists'.mp c_52
        rw [hk, show oI (some k) = nI k from rfl]
        refine ev_aload_n dX5_callFor_55 rfl rfl ?_
        refine ev_getfield dX5_callFor_56 fl_X5_21 (by first | assumption | omega | exact ePp.ob (by assumption) | exact eNm.ob (by assumption) | exact eRg.ob (by assumption)) rfl ?_
        refine ev_iload dX5_callFor_59 rfl ?_
        refine ev_aload_n dX5_callFor_61 rfl rfl ?_
        refine ev_getfield dX5_callFor_62 fl_X5_29 (by first | assumption | omega | exact ePp.ob (by assumption) | exact eNm.ob (by assumption) | exact eRg.ob (by assumption)) rfl ?_
        refine ev_aload_n dX5_callFor_65 rfl rfl ?_
        refine ev_getfield dX5_callFor_66 fl_X5_25 (by first | assumption | omega | exact ePp.ob (by assumption) | exact eNm.ob (by assumption) | exact eRg.ob (by assumption)) rfl ?_
        refine ev_iconst (v := nI 0) dX5_callFor_69 rfl ?_
        refine ev_ialoadA dX5_callFor_70 (by first | assumption | omega | exact ePp.ob (by assumption) | exact eNm.ob (by assumption) | exact eRg.ob (by assumption)) (by first | assumption | omega | exact ePp.ob (by assumption) | exact eNm.ob (by assumption) | exact eRg.ob (by assumption)) ?_
        refine ev_callVv dX5_callFor_71 (c_X2_use hN hB (fst_lt hk).1 (by have := (hI.2.2.2.1 k).2.2.2.2.1; omega) (hB _ _)) rfl lk_X5_120 (by first | assumption | omega | exact ePp.ob (by assumption) | exact eNm.ob (by assumption) | exact eRg.ob (by assumption)) ⟨Nat.le_of_ble_eq_true rfl, Nat.le_of_ble_eq_true rfl⟩ rfl (Nat.le_of_ble_eq_true rfl) ⟨Nat.le_of_ble_eq_true rfl, Nat.le_of_ble_eq_true rfl⟩ (fun g_71 hg_71 => ?_)
        obtain ⟨w_71, fr_71⟩ := hg_71
        first | replace r0 := eArr.fr r0 (fr_71 _ (by omega)) | replace r0 := Eq.trans (fr_71 _ (by omega)) r0 | replace r0 := eBo.fr r0 (fr_71 _ (by omega)) | replace r0 := z_71 r0 | replace r0 := z_71 | replace r0 := ePp.fr1 r0 (fun a _ _ => fr_71 a (by omega)) | replace r0 := eNm.fr1 r0 (fun a _ _ => fr_71 a (by omega)) | replace r0 := eRg.fr r0 (fun a _ _ => fr_71 a (by omega))
        first | replace hP := eArr.fr hP (fr_71 _ (by omega)) | replace hP := Eq.trans (fr_71 _ (by omega)) hP | replace hP := eBo.fr hP (fr_71 _ (by omega)) | replace hP := z_71 hP | replace hP := z_71 | replace hP := ePp.fr1 hP (fun a _ _ => fr_71 a (by omega)) | replace hP := eNm.fr1 hP (fun a _ _ => fr_71 a (by omega)) | replace hP := eRg.fr hP (fun a _ _ => fr_71 a (by omega))
        replace hN := w_71
        first | replace hS := eArr.fr hS (fr_71 _ (by omega)) | replace hS := Eq.trans (fr_71 _ (by omega)) hS | replace hS := eBo.fr hS (fr_71 _ (by omega)) | replace hS := z_71 hS | replace hS := z_71 | replace hS := ePp.fr1 hS (fun a _ _ => fr_71 a (by omega)) | replace hS := eNm.fr1 hS (fun a _ _ => fr_71 a (by omega)) | replace hS := eRg.fr hS (fun a _ _ => fr_71 a (by omega))
        first | replace FR := eFr.trans FR (eFr.one fr_71 (by omega) (by omega)) | replace FR := eFr.trans FR (eFr.wide fr_71 (by omega) (by omega))
        refine ev_goto (tgt := 91) dX5_callFor_74 (by decide) ?_
        refine ev_iload dX5_callFor_91 rfl ?_
        exact ev_iret dX5_callFor_93 rfl rfl (by exact oR hj.symm) (by first | exact ⟨by unfold sCall; rw [← hj]; simp only [hk]; exact eRg.use r0 hP hN hS, FR⟩ | exact ⟨by unfold sCall; rw [← hj]; simp only [c_52]; exact hR, FR⟩) (fun _ e => Option.some.inj e) (Nat.le_of_ble_eq_true rfl) (Nat.le_of_ble_eq_true rfl)
    · refine ev_iconst (v := -1) dX5_callFor_34 (by decide) ?_
      exact ev_iret dX5_callFor_35 rfl rfl (by exact oRn (hj ▸ c_31)) (by exact ⟨by unfold sCall; rw [← hj, c_31]; exact hR, eFr.rf⟩) (fun _ e => Option.some.inj e) (Nat.le_of_ble_eq_true rfl) (Nat.le_of_ble_eq_true rfl)
  refine ev_iload_n dX5_callFor_0 rfl rfl ?_
  refine ev_callNi dX5_callFor_1 (c_X10_isBench hb) lk_X5_109 ws_yX10_isBench ⟨Nat.le_of_ble_eq_true rfl, Nat.le_of_ble_eq_true rfl⟩ rfl (Nat.le_of_ble_eq_true rfl) ⟨Nat.le_of_ble_eq_true rfl, Nat.le_of_ble_eq_true rfl⟩ (eRo ?_)
  first | ((with_reducible show eV _ _ _ (Value.int (bI _) :: _) _ _ _ _); refine ev_if_eqB (tgt := 25) dX5_callFor_4 (by decide) (fun c_4 => ?_) (fun c_4 => ?_)) | ((with_reducible show eV _ _ _ (Value.int (nI _) :: _) _ _ _ _); refine ev_if_eqN (tgt := 25) dX5_callFor_4 (by decide) (by first | exact hB _ _ | omega) (fun c_4 => ?_) (fun c_4 => ?_)) | (refine ev_if_eqZ (tgt := 25) dX5_callFor_4 (by decide) (fun c_4 => ?_) (fun c_4 => ?_))
  · refine ev_iconst (v := -1) dX5_callFor_25 (by decide) ?_
    refine ev_istore dX5_callFor_26 (Nat.le_of_ble_eq_true rfl) ?_
    first | (exact (J_28 none (by first | exact sCallW_b c_4 | exact sCallW_c c_12 | exact sCallW_y c_4 c_12)).sub1 ⟨rfl, rfl, rfl, rfl, rfl, trivial⟩ rfl) | (exact (J_28 (sMeant σ b m c) (by first | exact sCallW_b c_4 | exact sCallW_c c_12 | exact sCallW_y c_4 c_12)).sub1 ⟨rfl, rfl, rfl, rfl, rfl, trivial⟩ rfl)
  · refine ev_iload_n dX5_callFor_7 rfl rfl ?_
    refine ev_iload_n dX5_callFor_8 rfl rfl ?_
    refine ev_callSi dX5_callFor_9 (c_X0_isCode hm hc) lk_X5_112 ⟨Nat.le_of_ble_eq_true rfl, Nat.le_of_ble_eq_true rfl⟩ rfl (Nat.le_of_ble_eq_true rfl) ⟨Nat.le_of_ble_eq_true rfl, Nat.le_of_ble_eq_true rfl⟩ (eRo ?_)
    first | ((with_reducible show eV _ _ _ (Value.int (bI _) :: _) _ _ _ _); refine ev_if_eqB (tgt := 25) dX5_callFor_12 (by decide) (fun c_12 => ?_) (fun c_12 => ?_)) | ((with_reducible show eV _ _ _ (Value.int (nI _) :: _) _ _ _ _); refine ev_if_eqN (tgt := 25) dX5_callFor_12 (by decide) (by first | exact hB _ _ | omega) (fun c_12 => ?_) (fun c_12 => ?_)) | (refine ev_if_eqZ (tgt := 25) dX5_callFor_12 (by decide) (fun c_12 => ?_) (fun c_12 => ?_))
    · refine ev_iconst (v := -1) dX5_callFor_25 (by decide) ?_
      refine ev_istore dX5_callFor_26 (Nat.le_of_ble_eq_true rfl) ?_
      first | (exact (J_28 none (by first | exact sCallW_b c_4 | exact sCallW_c c_12 | exact sCallW_y c_4 c_12)).sub1 ⟨rfl, rfl, rfl, rfl, rfl, trivial⟩ rfl) | (exact (J_28 (sMeant σ b m c) (by first | exact sCallW_b c_4 | exact sCallW_c c_12 | exact sCallW_y c_4 c_12)).sub1 ⟨rfl, rfl, rfl, rfl, rfl, trivial⟩ rfl)
    · refine ev_aload_n dX5_callFor_15 rfl rfl ?_
      refine ev_iload_n dX5_callFor_16 rfl rfl ?_
      refine ev_iload_n dX5_callFor_17 rfl rfl ?_
      refine ev_iload_n dX5_callFor_18 rfl rfl ?_
      refine ev_callVi dX5_callFor_19 (c_X5_meantByPeople (by first | assumption | omega | exact ePp.ob (by assumption) | exact eNm.ob (by assumption) | exact eRg.ob (by assumption)) (by first | assumption | omega | exact ePp.ob (by assumption) | exact eNm.ob (by assumption) | exact eRg.ob (by assumption)) (by first | assumption | omega | exact ePp.ob (by assumption) | exact eNm.ob (by assumption) | exact eRg.ob (by assumption)) (by first | assumption | omega | exact ePp.ob (by assumption) | exact eNm.ob (by assumption) | exact eRg.ob (by assumption)) (by first | assumption | omega | exact ePp.ob (by assumption) | exact eNm.ob (by assumption) | exact eRg.ob (by assumption))) rfl lk_X5_117 (by first | assumption | omega | exact ePp.ob (by assumption) | exact eNm.ob (by assumption) | exact eRg.ob (by assumption)) ⟨Nat.le_of_ble_eq_true rfl, Nat.le_of_ble_eq_true rfl⟩ rfl (Nat.le_of_ble_eq_true rfl) ⟨Nat.le_of_ble_eq_true rfl, Nat.le_of_ble_eq_true rfl⟩ (eRo ?_)
      refine ev_goto (tgt := 26) dX5_callFor_22 (by decide) ?_
      refine ev_istore dX5_callFor_26 (Nat.le_of_ble_eq_true rfl) ?_
      first | (exact (J_28 none (by first | exact sCallW_b c_4 | exact sCallW_c c_12 | exact sCallW_y c_4 c_12)).sub1 ⟨rfl, rfl, rfl, rfl, rfl, trivial⟩ rfl) | (exact (J_28 (sMeant σ b m c) (by first | exact sCallW_b c_4 | exact sCallW_c c_12 | exact sCallW_y c_4 c_12)).sub1 ⟨rfl, rfl, rfl, rfl, rfl, trivial⟩ rfl)

