set_option maxHeartbeats 4000000 in
set_option maxRecDepth 20000 in
theorem c_X4_add {h : eH} {n q : Nat} {σ : St} (hP : ePp h q σ) (hB : eB σ) (hlt : σ 0 0 < 12) {a f b : Nat} : kX4_add [.ref q, .int (nI a), .int (nI f), .int (nI b)] h n (.inl none, (fun g => ePp g q (sAddP σ a f b) ∧ eFr h g q (q + 6)), some n) 0 0 := by
  refine eM.of RX4 "add" [(0, .ref q), (1, .int (nI a)), (2, .int (nI f)), (3, .int (nI b))] pn_X4 rfl rfl (Nat.le_of_ble_eq_true rfl) rfl ?_
  obtain ⟨p0, p1, p2, p3, p4, p5⟩ := id hP
  have FR : eFr h h q (q + 6) := eFr.rf
  refine ev_aload_n dX4_add_0 rfl rfl ?_
  refine ev_callVi dX4_add_1 (c_X4_isFull (by first | assumption | omega) (by first | assumption | omega)) rfl lk_X4_37 (by first | assumption | omega) ⟨Nat.le_of_ble_eq_true rfl, Nat.le_of_ble_eq_true rfl⟩ rfl (Nat.le_of_ble_eq_true rfl) ⟨Nat.le_of_ble_eq_true rfl, Nat.le_of_ble_eq_true rfl⟩ (eRo ?_)
  first | ((with_reducible show eV _ _ _ (Value.int (bI _) :: _) _ _ _ _); refine ev_if_eqB (tgt := 8) dX4_add_4 (by decide) (fun c_4 => ?_) (fun c_4 => ?_)) | ((with_reducible show eV _ _ _ (Value.int (nI _) :: _) _ _ _ _); refine ev_if_eqN (tgt := 8) dX4_add_4 (by decide) (by first | exact hB _ _ | omega) (fun c_4 => ?_) (fun c_4 => ?_)) | (refine ev_if_eqZ (tgt := 8) dX4_add_4 (by decide) (fun c_4 => ?_) (fun c_4 => ?_))
  · refine ev_aload_n dX4_add_8 rfl rfl ?_
    refine ev_getfield dX4_add_9 fl_X4_15 (by first | assumption | omega) rfl ?_
    refine ev_aload_n dX4_add_12 rfl rfl ?_
    refine ev_getfield dX4_add_13 fl_X4_9 (by first | assumption | omega) rfl ?_
    refine ev_iload_n dX4_add_16 rfl rfl ?_
    refine ev_iastoreA dX4_add_17 (by first | assumption | omega) (by first | assumption | omega) (fun g_17 fr_17 w_17 => ?_)
    first | replace p0 := eArr.fr p0 (fr_17 _ (by omega)) | replace p0 := Eq.trans (fr_17 _ (by omega)) p0 | replace p0 := eBo.fr p0 (fr_17 _ (by omega)) | replace p0 := z_17 p0 | replace p0 := z_17
    replace p1 := w_17 _ (Or.inr ⟨rfl, rfl⟩)
    first | replace p2 := eArr.fr p2 (fr_17 _ (by omega)) | replace p2 := Eq.trans (fr_17 _ (by omega)) p2 | replace p2 := eBo.fr p2 (fr_17 _ (by omega)) | replace p2 := z_17 p2 | replace p2 := z_17
    first | replace p3 := eArr.fr p3 (fr_17 _ (by omega)) | replace p3 := Eq.trans (fr_17 _ (by omega)) p3 | replace p3 := eBo.fr p3 (fr_17 _ (by omega)) | replace p3 := z_17 p3 | replace p3 := z_17
    first | replace p4 := eArr.fr p4 (fr_17 _ (by omega)) | replace p4 := Eq.trans (fr_17 _ (by omega)) p4 | replace p4 := eBo.fr p4 (fr_17 _ (by omega)) | replace p4 := z_17 p4 | replace p4 := z_17
    first | replace p5 := eArr.fr p5 (fr_17 _ (by omega)) | replace p5 := Eq.trans (fr_17 _ (by omega)) p5 | replace p5 := eBo.fr p5 (fr_17 _ (by omega)) | replace p5 := z_17 p5 | replace p5 := z_17
    replace FR := eFr.trans FR (eFr.one fr_17 (by omega) (by omega))
    refine ev_aload_n dX4_add_18 rfl rfl ?_
    refine ev_getfield dX4_add_19 fl_X4_19 (by first | assumption | omega) rfl ?_
    refine ev_aload_n dX4_add_22 rfl rfl ?_
    refine ev_getfield dX4_add_23 fl_X4_9 (by first | assumption | omega) rfl ?_
    refine ev_iload_n dX4_add_26 rfl rfl ?_
    refine ev_iastoreA dX4_add_27 (by first | assumption | omega) (by first | assumption | omega) (fun g_27 fr_27 w_27 => ?_)
    first | replace p0 := eArr.fr p0 (fr_27 _ (by omega)) | replace p0 := Eq.trans (fr_27 _ (by omega)) p0 | replace p0 := eBo.fr p0 (fr_27 _ (by omega)) | replace p0 := z_27 p0 | replace p0 := z_27
    first | replace p1 := eArr.fr p1 (fr_27 _ (by omega)) | replace p1 := Eq.trans (fr_27 _ (by omega)) p1 | replace p1 := eBo.fr p1 (fr_27 _ (by omega)) | replace p1 := z_27 p1 | replace p1 := z_27
    replace p2 := w_27 _ (Or.inr ⟨rfl, rfl⟩)
    first | replace p3 := eArr.fr p3 (fr_27 _ (by omega)) | replace p3 := Eq.trans (fr_27 _ (by omega)) p3 | replace p3 := eBo.fr p3 (fr_27 _ (by omega)) | replace p3 := z_27 p3 | replace p3 := z_27
    first | replace p4 := eArr.fr p4 (fr_27 _ (by omega)) | replace p4 := Eq.trans (fr_27 _ (by omega)) p4 | replace p4 := eBo.fr p4 (fr_27 _ (by omega)) | replace p4 := z_27 p4 | replace p4 := z_27
    first | replace p5 := eArr.fr p5 (fr_27 _ (by omega)) | replace p5 := Eq.trans (fr_27 _ (by omega)) p5 | replace p5 := eBo.fr p5 (fr_27 _ (by omega)) | replace p5 := z_27 p5 | replace p5 := z_27
    replace FR := eFr.trans FR (eFr.one fr_27 (by omega) (by omega))
    refine ev_aload_n dX4_add_28 rfl rfl ?_
    refine ev_getfield dX4_add_29 fl_X4_22 (by first | assumption | omega) rfl ?_
    refine ev_aload_n dX4_add_32 rfl rfl ?_
    refine ev_getfield dX4_add_33 fl_X4_9 (by first | assumption | omega) rfl ?_
    refine ev_iload_n dX4_add_36 rfl rfl ?_
    refine ev_iastoreA dX4_add_37 (by first | assumption | omega) (by first | assumption | omega) (fun g_37 fr_37 w_37 => ?_)
    first | replace p0 := eArr.fr p0 (fr_37 _ (by omega)) | replace p0 := Eq.trans (fr_37 _ (by omega)) p0 | replace p0 := eBo.fr p0 (fr_37 _ (by omega)) | replace p0 := z_37 p0 | replace p0 := z_37
    first | replace p1 := eArr.fr p1 (fr_37 _ (by omega)) | replace p1 := Eq.trans (fr_37 _ (by omega)) p1 | replace p1 := eBo.fr p1 (fr_37 _ (by omega)) | replace p1 := z_37 p1 | replace p1 := z_37
    first | replace p2 := eArr.fr p2 (fr_37 _ (by omega)) | replace p2 := Eq.trans (fr_37 _ (by omega)) p2 | replace p2 := eBo.fr p2 (fr_37 _ (by omega)) | replace p2 := z_37 p2 | replace p2 := z_37
    replace p3 := w_37 _ (Or.inr ⟨rfl, rfl⟩)
    first | replace p4 := eArr.fr p4 (fr_37 _ (by omega)) | replace p4 := Eq.trans (fr_37 _ (by omega)) p4 | replace p4 := eBo.fr p4 (fr_37 _ (by omega)) | replace p4 := z_37 p4 | replace p4 := z_37
    first | replace p5 := eArr.fr p5 (fr_37 _ (by omega)) | replace p5 := Eq.trans (fr_37 _ (by omega)) p5 | replace p5 := eBo.fr p5 (fr_37 _ (by omega)) | replace p5 := z_37 p5 | replace p5 := z_37
    replace FR := eFr.trans FR (eFr.one fr_37 (by omega) (by omega))
    refine ev_aload_n dX4_add_38 rfl rfl ?_
    refine ev_getfield dX4_add_39 fl_X4_25 (by first | assumption | omega) rfl ?_
    refine ev_aload_n dX4_add_42 rfl rfl ?_
    refine ev_getfield dX4_add_43 fl_X4_9 (by first | assumption | omega) rfl ?_
    refine ev_iconst (v := nI 0) dX4_add_46 rfl ?_
    refine ev_iastoreA dX4_add_47 (by first | assumption | omega) (by first | assumption | omega) (fun g_47 fr_47 w_47 => ?_)
    first | replace p0 := eArr.fr p0 (fr_47 _ (by omega)) | replace p0 := Eq.trans (fr_47 _ (by omega)) p0 | replace p0 := eBo.fr p0 (fr_47 _ (by omega)) | replace p0 := z_47 p0 | replace p0 := z_47
    first | replace p1 := eArr.fr p1 (fr_47 _ (by omega)) | replace p1 := Eq.trans (fr_47 _ (by omega)) p1 | replace p1 := eBo.fr p1 (fr_47 _ (by omega)) | replace p1 := z_47 p1 | replace p1 := z_47
    first | replace p2 := eArr.fr p2 (fr_47 _ (by omega)) | replace p2 := Eq.trans (fr_47 _ (by omega)) p2 | replace p2 := eBo.fr p2 (fr_47 _ (by omega)) | replace p2 := z_47 p2 | replace p2 := z_47
    first | replace p3 := eArr.fr p3 (fr_47 _ (by omega)) | replace p3 := Eq.trans (fr_47 _ (by omega)) p3 | replace p3 := eBo.fr p3 (fr_47 _ (by omega)) | replace p3 := z_47 p3 | replace p3 := z_47
    replace p4 := w_47 _ (Or.inr ⟨rfl, rfl⟩)
    first | replace p5 := eArr.fr p5 (fr_47 _ (by omega)) | replace p5 := Eq.trans (fr_47 _ (by omega)) p5 | replace p5 := eBo.fr p5 (fr_47 _ (by omega)) | replace p5 := z_47 p5 | replace p5 := z_47
    replace FR := eFr.trans FR (eFr.one fr_47 (by omega) (by omega))
    refine ev_aload_n dX4_add_48 rfl rfl ?_
    refine ev_getfield dX4_add_49 fl_X4_28 (by first | assumption | omega) rfl ?_
    refine ev_aload_n dX4_add_52 rfl rfl ?_
    refine ev_getfield dX4_add_53 fl_X4_9 (by first | assumption | omega) rfl ?_
    refine ev_iconst (v := nI 0) dX4_add_56 rfl ?_
    refine ev_iastoreA dX4_add_57 (by first | assumption | omega) (by first | assumption | omega) (fun g_57 fr_57 w_57 => ?_)
    first | replace p0 := eArr.fr p0 (fr_57 _ (by omega)) | replace p0 := Eq.trans (fr_57 _ (by omega)) p0 | replace p0 := eBo.fr p0 (fr_57 _ (by omega)) | replace p0 := z_57 p0 | replace p0 := z_57
    first | replace p1 := eArr.fr p1 (fr_57 _ (by omega)) | replace p1 := Eq.trans (fr_57 _ (by omega)) p1 | replace p1 := eBo.fr p1 (fr_57 _ (by omega)) | replace p1 := z_57 p1 | replace p1 := z_57
    first | replace p2 := eArr.fr p2 (fr_57 _ (by omega)) | replace p2 := Eq.trans (fr_57 _ (by omega)) p2 | replace p2 := eBo.fr p2 (fr_57 _ (by omega)) | replace p2 := z_57 p2 | replace p2 := z_57
    first | replace p3 := eArr.fr p3 (fr_57 _ (by omega)) | replace p3 := Eq.trans (fr_57 _ (by omega)) p3 | replace p3 := eBo.fr p3 (fr_57 _ (by omega)) | replace p3 := z_57 p3 | replace p3 := z_57
    first | replace p4 := eArr.fr p4 (fr_57 _ (by omega)) | replace p4 := Eq.trans (fr_57 _ (by omega)) p4 | replace p4 := eBo.fr p4 (fr_57 _ (by omega)) | replace p4 := z_57 p4 | replace p4 := z_57
    replace p5 := w_57 _ (Or.inr ⟨rfl, rfl⟩)
    replace FR := eFr.trans FR (eFr.one fr_57 (by omega) (by omega))
    refine ev_aload_n dX4_add_58 rfl rfl ?_
    refine ev_dup dX4_add_59 rfl ?_
    refine ev_getfield dX4_add_60 fl_X4_9 (by first | assumption | omega) rfl ?_
    refine ev_iconst (v := nI 1) dX4_add_63 rfl ?_
    first | refine ev_iaddN dX4_add_64 ?_ | refine ev_iadd dX4_add_64 ?_
    refine ev_putH dX4_add_65 pl_X4_9 (by first | assumption | omega) (Nat.le_of_ble_eq_true rfl) rfl rfl (fun g_65 fr_65 w_65 => ?_)
    replace p0 := w_65
    first | replace p1 := eArr.fr p1 (fr_65 _ (by omega)) | replace p1 := Eq.trans (fr_65 _ (by omega)) p1 | replace p1 := eBo.fr p1 (fr_65 _ (by omega)) | replace p1 := z_65 p1 | replace p1 := z_65
    first | replace p2 := eArr.fr p2 (fr_65 _ (by omega)) | replace p2 := Eq.trans (fr_65 _ (by omega)) p2 | replace p2 := eBo.fr p2 (fr_65 _ (by omega)) | replace p2 := z_65 p2 | replace p2 := z_65
    first | replace p3 := eArr.fr p3 (fr_65 _ (by omega)) | replace p3 := Eq.trans (fr_65 _ (by omega)) p3 | replace p3 := eBo.fr p3 (fr_65 _ (by omega)) | replace p3 := z_65 p3 | replace p3 := z_65
    first | replace p4 := eArr.fr p4 (fr_65 _ (by omega)) | replace p4 := Eq.trans (fr_65 _ (by omega)) p4 | replace p4 := eBo.fr p4 (fr_65 _ (by omega)) | replace p4 := z_65 p4 | replace p4 := z_65
    first | replace p5 := eArr.fr p5 (fr_65 _ (by omega)) | replace p5 := Eq.trans (fr_65 _ (by omega)) p5 | replace p5 := eBo.fr p5 (fr_65 _ (by omega)) | replace p5 := z_65 p5 | replace p5 := z_65
    replace FR := eFr.trans FR (eFr.one fr_65 (by omega) (by omega))
    have e0 : sAddP σ a f b 0 0 = σ 0 0 + 1 := by simp [sAddP, su]
    exact ev_vret dX4_add_68 rfl rfl (by refine ⟨⟨by rw [e0]; exact p0, ?_, ?_, ?_, ?_, ?_⟩, FR⟩ <;> rw [e0]; exact p1.congr (fun j hj => by simp [sAddP, su]); exact p2.congr (fun j hj => by simp [sAddP, su]); exact p3.congr (fun j hj => by simp [sAddP, su]); exact p4.congr (fun j hj => by simp [sAddP, su]); exact p5.congr (fun j hj => by simp [sAddP, su])) (fun _ e => Option.some.inj e) (Nat.le_of_ble_eq_true rfl) (Nat.le_of_ble_eq_true rfl)
  · exact absurd c_4 (by simp only [decide_eq_true_eq]; omega)
set_option maxHeartbeats 4000000 in
set_option maxRecDepth 20000 in
theorem c_X4_growOlder {h : eH} {n q : Nat} {σ : St} (hP : ePp h q σ) (hB : eB σ) : kX4_growOlder [.ref q] h n (.inl none, (fun g => ePp g q (sGrow σ (σ 0 0)) ∧ eFr h g q (q + 6)), some n) 0 0 := by
  refine eM.of RX4 "growOlder" [(0, .ref q)] pn_X4 rfl rfl (Nat.le_of_ble_eq_true rfl) rfl ?_
  have hm := hP.2.1.1
  refine ev_iconst (v := nI 0) dX4_growOlder_0 rfl ?_
  refine ev_istore_n dX4_growOlder_1 rfl (Nat.le_of_ble_eq_true rfl) ?_
  have H_2 : ∀ (d_2 : Nat) (k : Nat) (g : eH), d_2 = σ 0 0 - k → (k ≤ σ 0 0) → (ePp g q (sGrow σ k) ∧ eFr h g q (q + 6)) → eV mX4_growOlder 2 [(0, .ref q), (1, .int (nI k))] [] (g, n, 0, 0) (.inl none, (fun g => ePp g q (sGrow σ (σ 0 0)) ∧ eFr h g q (q + 6)), some n) 0 0 := by
    intro d_2
    induction d_2 using Nat.strongRecOn with
    | _ d_2 ih_2 =>
    intro k g hd_2 hk hg
    have FR := hg.2
    obtain ⟨p0, p1, p2, p3, p4, p5⟩ := hg.1
    have e0 : sGrow σ k 0 0 = σ 0 0 := by simp [sGrow]
    rw [e0] at p0 p1 p2 p3 p4 p5
    refine ev_iload_n dX4_growOlder_2 rfl rfl ?_
    refine ev_aload_n dX4_growOlder_3 rfl rfl ?_
    refine ev_getfield dX4_growOlder_4 fl_X4_9 (by first | assumption | omega) rfl ?_
    first | ((with_reducible show eV _ _ _ (Value.int (nI _) :: Value.int (nI _) :: _) _ _ _ _); refine ev_icmp_geN (tgt := 26) dX4_growOlder_7 (by decide) (by first | exact hB _ _ | omega) (by first | exact hB _ _ | omega) (fun c_7 => ?_) (fun c_7 => ?_)) | ((with_reducible show eV _ _ _ (Value.int (nI _) :: _) _ _ _ _); refine ev_icmp_geZN (tgt := 26) dX4_growOlder_7 (by decide) (by first | exact hB _ _ | omega) (fun c_7 => ?_) (fun c_7 => ?_)) | ((with_reducible show eV _ _ _ (_ :: Value.int (nI _) :: _) _ _ _ _); refine ev_icmp_geNZ (tgt := 26) dX4_growOlder_7 (by decide) (by first | exact hB _ _ | omega) (fun c_7 => ?_) (fun c_7 => ?_)) | (refine ev_icmp_geZZ (tgt := 26) dX4_growOlder_7 (by decide) (fun c_7 => ?_) (fun c_7 => ?_))
    · have ek : k = σ 0 0 := by omega
      exact ev_vret dX4_growOlder_26 rfl rfl (by refine ⟨?_, FR⟩; rw [← ek]; exact hg.1) (fun _ e => Option.some.inj e) (Nat.le_of_ble_eq_true rfl) (Nat.le_of_ble_eq_true rfl)
    · refine ev_aload_n dX4_growOlder_10 rfl rfl ?_
      refine ev_getfield dX4_growOlder_11 fl_X4_15 (by first | assumption | omega) rfl ?_
      refine ev_iload_n dX4_growOlder_14 rfl rfl ?_
      refine ev_dup2 dX4_growOlder_15 rfl rfl ?_
      refine ev_ialoadA dX4_growOlder_16 (by first | assumption | omega) (by first | assumption | omega) ?_
      refine ev_iconst (v := nI 1) dX4_growOlder_17 rfl ?_
      first | refine ev_iaddN dX4_growOlder_18 ?_ | refine ev_iadd dX4_growOlder_18 ?_
      refine ev_iastoreA dX4_growOlder_19 (by first | assumption | omega) (by first | assumption | omega) (fun g_19 fr_19 w_19 => ?_)
      first | replace p0 := eArr.fr p0 (fr_19 _ (by omega)) | replace p0 := Eq.trans (fr_19 _ (by omega)) p0 | replace p0 := eBo.fr p0 (fr_19 _ (by omega)) | replace p0 := z_19 p0 | replace p0 := z_19
      replace p1 := w_19 _ (Or.inl (Nat.le_refl _))
      first | replace p2 := eArr.fr p2 (fr_19 _ (by omega)) | replace p2 := Eq.trans (fr_19 _ (by omega)) p2 | replace p2 := eBo.fr p2 (fr_19 _ (by omega)) | replace p2 := z_19 p2 | replace p2 := z_19
      first | replace p3 := eArr.fr p3 (fr_19 _ (by omega)) | replace p3 := Eq.trans (fr_19 _ (by omega)) p3 | replace p3 := eBo.fr p3 (fr_19 _ (by omega)) | replace p3 := z_19 p3 | replace p3 := z_19
      first | replace p4 := eArr.fr p4 (fr_19 _ (by omega)) | replace p4 := Eq.trans (fr_19 _ (by omega)) p4 | replace p4 := eBo.fr p4 (fr_19 _ (by omega)) | replace p4 := z_19 p4 | replace p4 := z_19
      first | replace p5 := eArr.fr p5 (fr_19 _ (by omega)) | replace p5 := Eq.trans (fr_19 _ (by omega)) p5 | replace p5 := eBo.fr p5 (fr_19 _ (by omega)) | replace p5 := z_19 p5 | replace p5 := z_19
      replace FR := eFr.trans FR (eFr.one fr_19 (by omega) (by omega))
      first | refine ev_iincN dX4_growOlder_20 rfl (Nat.le_of_ble_eq_true rfl) ?_ | refine ev_iinc dX4_growOlder_20 rfl rfl (Nat.le_of_ble_eq_true rfl) ?_
      refine ev_goto (tgt := 2) dX4_growOlder_23 (by decide) ?_
      exact (ih_2 _ (by omega) (k + 1) _ rfl (by first | omega | assumption | rfl) (by have e1 : sGrow σ (k + 1) 0 0 = σ 0 0 := (by simp [sGrow]); refine ⟨⟨by rw [e1]; exact p0, ?_, ?_, ?_, ?_, ?_⟩, FR⟩ <;> rw [e1]; exact p1.congr (fun j hj => by simp only [sGrow]; by_cases z : j = k; (subst z; simp); (by_cases z2 : j < k; (simp [z, z2, show j < k + 1 by omega]); (simp [z, z2, show ¬ j < k + 1 by omega]))); exact p2.congr (fun j hj => by simp [sGrow]); exact p3.congr (fun j hj => by simp [sGrow]); exact p4.congr (fun j hj => by simp [sGrow]); exact p5.congr (fun j hj => by simp [sGrow]))).sub1 ⟨rfl, rfl, trivial⟩ rfl
  exact (H_2 _ 0 h rfl (by first | omega | assumption | rfl) (by exact ⟨hP.fr (fun _ _ _ => rfl) rfl (fun f _ _ j _ => by simp [sGrow]), eFr.rf⟩)).sub1 ⟨rfl, rfl, trivial⟩ rfl
set_option maxHeartbeats 4000000 in
set_option maxRecDepth 20000 in
theorem c_X4_copyFrom {h : eH} {n q s : Nat} {σ τ : St} (hS : ePp h s σ) (hP : ePp h q τ) (hd : q + 6 ≤ s ∨ s + 6 ≤ q) : kX4_copyFrom [.ref q, .ref s] h n (.inl none, (fun g => ePp g q σ ∧ eFr h g q (q + 6)), some n) 0 0 := by
  refine eM.of RX4 "copyFrom" [(0, .ref q), (1, .ref s)] pn_X4 rfl rfl (Nat.le_of_ble_eq_true rfl) rfl ?_
  obtain ⟨p0, p1, p2, p3, p4, p5⟩ := id hP
  obtain ⟨s0, s1, s2, s3, s4, s5⟩ := id hS
  have FR : eFr h h q (q + 6) := eFr.rf
  refine ev_aload_n dX4_copyFrom_0 rfl rfl ?_
  refine ev_aload_n dX4_copyFrom_1 rfl rfl ?_
  refine ev_getfield dX4_copyFrom_2 fl_X4_9 (by first | assumption | omega) rfl ?_
  refine ev_putH dX4_copyFrom_5 pl_X4_9 (by first | assumption | omega) (Nat.le_of_ble_eq_true rfl) rfl rfl (fun g_5 fr_5 w_5 => ?_)
  replace p0 := w_5
  first | replace p1 := eArr.fr p1 (fr_5 _ (by omega)) | replace p1 := Eq.trans (fr_5 _ (by omega)) p1 | replace p1 := eBo.fr p1 (fr_5 _ (by omega)) | replace p1 := z_5 p1 | replace p1 := z_5
  first | replace p2 := eArr.fr p2 (fr_5 _ (by omega)) | replace p2 := Eq.trans (fr_5 _ (by omega)) p2 | replace p2 := eBo.fr p2 (fr_5 _ (by omega)) | replace p2 := z_5 p2 | replace p2 := z_5
  first | replace p3 := eArr.fr p3 (fr_5 _ (by omega)) | replace p3 := Eq.trans (fr_5 _ (by omega)) p3 | replace p3 := eBo.fr p3 (fr_5 _ (by omega)) | replace p3 := z_5 p3 | replace p3 := z_5
  first | replace p4 := eArr.fr p4 (fr_5 _ (by omega)) | replace p4 := Eq.trans (fr_5 _ (by omega)) p4 | replace p4 := eBo.fr p4 (fr_5 _ (by omega)) | replace p4 := z_5 p4 | replace p4 := z_5
  first | replace p5 := eArr.fr p5 (fr_5 _ (by omega)) | replace p5 := Eq.trans (fr_5 _ (by omega)) p5 | replace p5 := eBo.fr p5 (fr_5 _ (by omega)) | replace p5 := z_5 p5 | replace p5 := z_5
  first | replace s0 := eArr.fr s0 (fr_5 _ (by omega)) | replace s0 := Eq.trans (fr_5 _ (by omega)) s0 | replace s0 := eBo.fr s0 (fr_5 _ (by omega)) | replace s0 := z_5 s0 | replace s0 := z_5
  first | replace s1 := eArr.fr s1 (fr_5 _ (by omega)) | replace s1 := Eq.trans (fr_5 _ (by omega)) s1 | replace s1 := eBo.fr s1 (fr_5 _ (by omega)) | replace s1 := z_5 s1 | replace s1 := z_5
  first | replace s2 := eArr.fr s2 (fr_5 _ (by omega)) | replace s2 := Eq.trans (fr_5 _ (by omega)) s2 | replace s2 := eBo.fr s2 (fr_5 _ (by omega)) | replace s2 := z_5 s2 | replace s2 := z_5
  first | replace s3 := eArr.fr s3 (fr_5 _ (by omega)) | replace s3 := Eq.trans (fr_5 _ (by omega)) s3 | replace s3 := eBo.fr s3 (fr_5 _ (by omega)) | replace s3 := z_5 s3 | replace s3 := z_5
  first | replace s4 := eArr.fr s4 (fr_5 _ (by omega)) | replace s4 := Eq.trans (fr_5 _ (by omega)) s4 | replace s4 := eBo.fr s4 (fr_5 _ (by omega)) | replace s4 := z_5 s4 | replace s4 := z_5
  first | replace s5 := eArr.fr s5 (fr_5 _ (by omega)) | replace s5 := Eq.trans (fr_5 _ (by omega)) s5 | replace s5 := eBo.fr s5 (fr_5 _ (by omega)) | replace s5 := z_5 s5 | replace s5 := z_5
  replace FR := eFr.trans FR (eFr.one fr_5 (by omega) (by omega))
  refine ev_aload_n dX4_copyFrom_8 rfl rfl ?_
  refine ev_getfield dX4_copyFrom_9 fl_X4_15 (by first | assumption | omega) rfl ?_
  refine ev_iconst (v := nI 0) dX4_copyFrom_12 rfl ?_
  refine ev_aload_n dX4_copyFrom_13 rfl rfl ?_
  refine ev_getfield dX4_copyFrom_14 fl_X4_15 (by first | assumption | omega) rfl ?_
  refine ev_iconst (v := nI 0) dX4_copyFrom_17 rfl ?_
  refine ev_bipush (v := nI 12) dX4_copyFrom_18 rfl ?_
  refine ev_copyA dX4_copyFrom_20 (by first | assumption | omega) (by first | assumption | omega) (fun _ => rfl) rfl (fun _ => rfl) wv_X4_31 (Nat.le_of_ble_eq_true rfl) (Nat.le_of_ble_eq_true rfl) (fun g_20 fr_20 w_20 => ?_)
  first | replace p0 := eArr.fr p0 (fr_20 _ (by omega)) | replace p0 := Eq.trans (fr_20 _ (by omega)) p0 | replace p0 := eBo.fr p0 (fr_20 _ (by omega)) | replace p0 := z_20 p0 | replace p0 := z_20
  replace p1 := w_20
  first | replace p2 := eArr.fr p2 (fr_20 _ (by omega)) | replace p2 := Eq.trans (fr_20 _ (by omega)) p2 | replace p2 := eBo.fr p2 (fr_20 _ (by omega)) | replace p2 := z_20 p2 | replace p2 := z_20
  first | replace p3 := eArr.fr p3 (fr_20 _ (by omega)) | replace p3 := Eq.trans (fr_20 _ (by omega)) p3 | replace p3 := eBo.fr p3 (fr_20 _ (by omega)) | replace p3 := z_20 p3 | replace p3 := z_20
  first | replace p4 := eArr.fr p4 (fr_20 _ (by omega)) | replace p4 := Eq.trans (fr_20 _ (by omega)) p4 | replace p4 := eBo.fr p4 (fr_20 _ (by omega)) | replace p4 := z_20 p4 | replace p4 := z_20
  first | replace p5 := eArr.fr p5 (fr_20 _ (by omega)) | replace p5 := Eq.trans (fr_20 _ (by omega)) p5 | replace p5 := eBo.fr p5 (fr_20 _ (by omega)) | replace p5 := z_20 p5 | replace p5 := z_20
  first | replace s0 := eArr.fr s0 (fr_20 _ (by omega)) | replace s0 := Eq.trans (fr_20 _ (by omega)) s0 | replace s0 := eBo.fr s0 (fr_20 _ (by omega)) | replace s0 := z_20 s0 | replace s0 := z_20
  first | replace s1 := eArr.fr s1 (fr_20 _ (by omega)) | replace s1 := Eq.trans (fr_20 _ (by omega)) s1 | replace s1 := eBo.fr s1 (fr_20 _ (by omega)) | replace s1 := z_20 s1 | replace s1 := z_20
  first | replace s2 := eArr.fr s2 (fr_20 _ (by omega)) | replace s2 := Eq.trans (fr_20 _ (by omega)) s2 | replace s2 := eBo.fr s2 (fr_20 _ (by omega)) | replace s2 := z_20 s2 | replace s2 := z_20
  first | replace s3 := eArr.fr s3 (fr_20 _ (by omega)) | replace s3 := Eq.trans (fr_20 _ (by omega)) s3 | replace s3 := eBo.fr s3 (fr_20 _ (by omega)) | replace s3 := z_20 s3 | replace s3 := z_20
  first | replace s4 := eArr.fr s4 (fr_20 _ (by omega)) | replace s4 := Eq.trans (fr_20 _ (by omega)) s4 | replace s4 := eBo.fr s4 (fr_20 _ (by omega)) | replace s4 := z_20 s4 | replace s4 := z_20
  first | replace s5 := eArr.fr s5 (fr_20 _ (by omega)) | replace s5 := Eq.trans (fr_20 _ (by omega)) s5 | replace s5 := eBo.fr s5 (fr_20 _ (by omega)) | replace s5 := z_20 s5 | replace s5 := z_20
  replace FR := eFr.trans FR (eFr.one fr_20 (by omega) (by omega))
  refine ev_aload_n dX4_copyFrom_23 rfl rfl ?_
  refine ev_getfield dX4_copyFrom_24 fl_X4_19 (by first | assumption | omega) rfl ?_
  refine ev_iconst (v := nI 0) dX4_copyFrom_27 rfl ?_
  refine ev_aload_n dX4_copyFrom_28 rfl rfl ?_
  refine ev_getfield dX4_copyFrom_29 fl_X4_19 (by first | assumption | omega) rfl ?_
  refine ev_iconst (v := nI 0) dX4_copyFrom_32 rfl ?_
  refine ev_bipush (v := nI 12) dX4_copyFrom_33 rfl ?_
  refine ev_copyA dX4_copyFrom_35 (by first | assumption | omega) (by first | assumption | omega) (fun _ => rfl) rfl (fun _ => rfl) wv_X4_31 (Nat.le_of_ble_eq_true rfl) (Nat.le_of_ble_eq_true rfl) (fun g_35 fr_35 w_35 => ?_)
  first | replace p0 := eArr.fr p0 (fr_35 _ (by omega)) | replace p0 := Eq.trans (fr_35 _ (by omega)) p0 | replace p0 := eBo.fr p0 (fr_35 _ (by omega)) | replace p0 := z_35 p0 | replace p0 := z_35
  first | replace p1 := eArr.fr p1 (fr_35 _ (by omega)) | replace p1 := Eq.trans (fr_35 _ (by omega)) p1 | replace p1 := eBo.fr p1 (fr_35 _ (by omega)) | replace p1 := z_35 p1 | replace p1 := z_35
  replace p2 := w_35
  first | replace p3 := eArr.fr p3 (fr_35 _ (by omega)) | replace p3 := Eq.trans (fr_35 _ (by omega)) p3 | replace p3 := eBo.fr p3 (fr_35 _ (by omega)) | replace p3 := z_35 p3 | replace p3 := z_35
  first | replace p4 := eArr.fr p4 (fr_35 _ (by omega)) | replace p4 := Eq.trans (fr_35 _ (by omega)) p4 | replace p4 := eBo.fr p4 (fr_35 _ (by omega)) | replace p4 := z_35 p4 | replace p4 := z_35
  first | replace p5 := eArr.fr p5 (fr_35 _ (by omega)) | replace p5 := Eq.trans (fr_35 _ (by omega)) p5 | replace p5 := eBo.fr p5 (fr_35 _ (by omega)) | replace p5 := z_35 p5 | replace p5 := z_35
  first | replace s0 := eArr.fr s0 (fr_35 _ (by omega)) | replace s0 := Eq.trans (fr_35 _ (by omega)) s0 | replace s0 := eBo.fr s0 (fr_35 _ (by omega)) | replace s0 := z_35 s0 | replace s0 := z_35
  first | replace s1 := eArr.fr s1 (fr_35 _ (by omega)) | replace s1 := Eq.trans (fr_35 _ (by omega)) s1 | replace s1 := eBo.fr s1 (fr_35 _ (by omega)) | replace s1 := z_35 s1 | replace s1 := z_35
  first | replace s2 := eArr.fr s2 (fr_35 _ (by omega)) | replace s2 := Eq.trans (fr_35 _ (by omega)) s2 | replace s2 := eBo.fr s2 (fr_35 _ (by omega)) | replace s2 := z_35 s2 | replace s2 := z_35
  first | replace s3 := eArr.fr s3 (fr_35 _ (by omega)) | replace s3 := Eq.trans (fr_35 _ (by omega)) s3 | replace s3 := eBo.fr s3 (fr_35 _ (by omega)) | replace s3 := z_35 s3 | replace s3 := z_35
  first | replace s4 := eArr.fr s4 (fr_35 _ (by omega)) | replace s4 := Eq.trans (fr_35 _ (by omega)) s4 | replace s4 := eBo.fr s4 (fr_35 _ (by omega)) | replace s4 := z_35 s4 | replace s4 := z_35
  first | replace s5 := eArr.fr s5 (fr_35 _ (by omega)) | replace s5 := Eq.trans (fr_35 _ (by omega)) s5 | replace s5 := eBo.fr s5 (fr_35 _ (by omega)) | replace s5 := z_35 s5 | replace s5 := z_35
  replace FR := eFr.trans FR (eFr.one fr_35 (by omega) (by omega))
  refine ev_aload_n dX4_copyFrom_38 rfl rfl ?_
  refine ev_getfield dX4_copyFrom_39 fl_X4_22 (by first | assumption | omega) rfl ?_
  refine ev_iconst (v := nI 0) dX4_copyFrom_42 rfl ?_
  refine ev_aload_n dX4_copyFrom_43 rfl rfl ?_
  refine ev_getfield dX4_copyFrom_44 fl_X4_22 (by first | assumption | omega) rfl ?_
  refine ev_iconst (v := nI 0) dX4_copyFrom_47 rfl ?_
  refine ev_bipush (v := nI 12) dX4_copyFrom_48 rfl ?_
  refine ev_copyA dX4_copyFrom_50 (by first | assumption | omega) (by first | assumption | omega) (fun _ => rfl) rfl (fun _ => rfl) wv_X4_31 (Nat.le_of_ble_eq_true rfl) (Nat.le_of_ble_eq_true rfl) (fun g_50 fr_50 w_50 => ?_)
  first | replace p0 := eArr.fr p0 (fr_50 _ (by omega)) | replace p0 := Eq.trans (fr_50 _ (by omega)) p0 | replace p0 := eBo.fr p0 (fr_50 _ (by omega)) | replace p0 := z_50 p0 | replace p0 := z_50
  first | replace p1 := eArr.fr p1 (fr_50 _ (by omega)) | replace p1 := Eq.trans (fr_50 _ (by omega)) p1 | replace p1 := eBo.fr p1 (fr_50 _ (by omega)) | replace p1 := z_50 p1 | replace p1 := z_50
  first | replace p2 := eArr.fr p2 (fr_50 _ (by omega)) | replace p2 := Eq.trans (fr_50 _ (by omega)) p2 | replace p2 := eBo.fr p2 (fr_50 _ (by omega)) | replace p2 := z_50 p2 | replace p2 := z_50
  replace p3 := w_50
  first | replace p4 := eArr.fr p4 (fr_50 _ (by omega)) | replace p4 := Eq.trans (fr_50 _ (by omega)) p4 | replace p4 := eBo.fr p4 (fr_50 _ (by omega)) | replace p4 := z_50 p4 | replace p4 := z_50
  first | replace p5 := eArr.fr p5 (fr_50 _ (by omega)) | replace p5 := Eq.trans (fr_50 _ (by omega)) p5 | replace p5 := eBo.fr p5 (fr_50 _ (by omega)) | replace p5 := z_50 p5 | replace p5 := z_50
  first | replace s0 := eArr.fr s0 (fr_50 _ (by omega)) | replace s0 := Eq.trans (fr_50 _ (by omega)) s0 | replace s0 := eBo.fr s0 (fr_50 _ (by omega)) | replace s0 := z_50 s0 | replace s0 := z_50
  first | replace s1 := eArr.fr s1 (fr_50 _ (by omega)) | replace s1 := Eq.trans (fr_50 _ (by omega)) s1 | replace s1 := eBo.fr s1 (fr_50 _ (by omega)) | replace s1 := z_50 s1 | replace s1 := z_50
  first | replace s2 := eArr.fr s2 (fr_50 _ (by omega)) | replace s2 := Eq.trans (fr_50 _ (by omega)) s2 | replace s2 := eBo.fr s2 (fr_50 _ (by omega)) | replace s2 := z_50 s2 | replace s2 := z_50
  first | replace s3 := eArr.fr s3 (fr_50 _ (by omega)) | replace s3 := Eq.trans (fr_50 _ (by omega)) s3 | replace s3 := eBo.fr s3 (fr_50 _ (by omega)) | replace s3 := z_50 s3 | replace s3 := z_50
  first | replace s4 := eArr.fr s4 (fr_50 _ (by omega)) | replace s4 := Eq.trans (fr_50 _ (by omega)) s4 | replace s4 := eBo.fr s4 (fr_50 _ (by omega)) | replace s4 := z_50 s4 | replace s4 := z_50
  first | replace s5 := eArr.fr s5 (fr_50 _ (by omega)) | replace s5 := Eq.trans (fr_50 _ (by omega)) s5 | replace s5 := eBo.fr s5 (fr_50 _ (by omega)) | replace s5 := z_50 s5 | replace s5 := z_50
  replace FR := eFr.trans FR (eFr.one fr_50 (by omega) (by omega))
  refine ev_aload_n dX4_copyFrom_53 rfl rfl ?_
  refine ev_getfield dX4_copyFrom_54 fl_X4_25 (by first | assumption | omega) rfl ?_
  refine ev_iconst (v := nI 0) dX4_copyFrom_57 rfl ?_
  refine ev_aload_n dX4_copyFrom_58 rfl rfl ?_
  refine ev_getfield dX4_copyFrom_59 fl_X4_25 (by first | assumption | omega) rfl ?_
  refine ev_iconst (v := nI 0) dX4_copyFrom_62 rfl ?_
  refine ev_bipush (v := nI 12) dX4_copyFrom_63 rfl ?_
  refine ev_copyA dX4_copyFrom_65 (by first | assumption | omega) (by first | assumption | omega) (fun _ => rfl) rfl (fun _ => rfl) wv_X4_31 (Nat.le_of_ble_eq_true rfl) (Nat.le_of_ble_eq_true rfl) (fun g_65 fr_65 w_65 => ?_)
  first | replace p0 := eArr.fr p0 (fr_65 _ (by omega)) | replace p0 := Eq.trans (fr_65 _ (by omega)) p0 | replace p0 := eBo.fr p0 (fr_65 _ (by omega)) | replace p0 := z_65 p0 | replace p0 := z_65
  first | replace p1 := eArr.fr p1 (fr_65 _ (by omega)) | replace p1 := Eq.trans (fr_65 _ (by omega)) p1 | replace p1 := eBo.fr p1 (fr_65 _ (by omega)) | replace p1 := z_65 p1 | replace p1 := z_65
  first | replace p2 := eArr.fr p2 (fr_65 _ (by omega)) | replace p2 := Eq.trans (fr_65 _ (by omega)) p2 | replace p2 := eBo.fr p2 (fr_65 _ (by omega)) | replace p2 := z_65 p2 | replace p2 := z_65
  first | replace p3 := eArr.fr p3 (fr_65 _ (by omega)) | replace p3 := Eq.trans (fr_65 _ (by omega)) p3 | replace p3 := eBo.fr p3 (fr_65 _ (by omega)) | replace p3 := z_65 p3 | replace p3 := z_65
  replace p4 := w_65
  first | replace p5 := eArr.fr p5 (fr_65 _ (by omega)) | replace p5 := Eq.trans (fr_65 _ (by omega)) p5 | replace p5 := eBo.fr p5 (fr_65 _ (by omega)) | replace p5 := z_65 p5 | replace p5 := z_65
  first | replace s0 := eArr.fr s0 (fr_65 _ (by omega)) | replace s0 := Eq.trans (fr_65 _ (by omega)) s0 | replace s0 := eBo.fr s0 (fr_65 _ (by omega)) | replace s0 := z_65 s0 | replace s0 := z_65
  first | replace s1 := eArr.fr s1 (fr_65 _ (by omega)) | replace s1 := Eq.trans (fr_65 _ (by omega)) s1 | replace s1 := eBo.fr s1 (fr_65 _ (by omega)) | replace s1 := z_65 s1 | replace s1 := z_65
  first | replace s2 := eArr.fr s2 (fr_65 _ (by omega)) | replace s2 := Eq.trans (fr_65 _ (by omega)) s2 | replace s2 := eBo.fr s2 (fr_65 _ (by omega)) | replace s2 := z_65 s2 | replace s2 := z_65
  first | replace s3 := eArr.fr s3 (fr_65 _ (by omega)) | replace s3 := Eq.trans (fr_65 _ (by omega)) s3 | replace s3 := eBo.fr s3 (fr_65 _ (by omega)) | replace s3 := z_65 s3 | replace s3 := z_65
  first | replace s4 := eArr.fr s4 (fr_65 _ (by omega)) | replace s4 := Eq.trans (fr_65 _ (by omega)) s4 | replace s4 := eBo.fr s4 (fr_65 _ (by omega)) | replace s4 := z_65 s4 | replace s4 := z_65
  first | replace s5 := eArr.fr s5 (fr_65 _ (by omega)) | replace s5 := Eq.trans (fr_65 _ (by omega)) s5 | replace s5 := eBo.fr s5 (fr_65 _ (by omega)) | replace s5 := z_65 s5 | replace s5 := z_65
  replace FR := eFr.trans FR (eFr.one fr_65 (by omega) (by omega))
  refine ev_aload_n dX4_copyFrom_68 rfl rfl ?_
  refine ev_getfield dX4_copyFrom_69 fl_X4_28 (by first | assumption | omega) rfl ?_
  refine ev_iconst (v := nI 0) dX4_copyFrom_72 rfl ?_
  refine ev_aload_n dX4_copyFrom_73 rfl rfl ?_
  refine ev_getfield dX4_copyFrom_74 fl_X4_28 (by first | assumption | omega) rfl ?_
  refine ev_iconst (v := nI 0) dX4_copyFrom_77 rfl ?_
  refine ev_bipush (v := nI 12) dX4_copyFrom_78 rfl ?_
  refine ev_copyA dX4_copyFrom_80 (by first | assumption | omega) (by first | assumption | omega) (fun _ => rfl) rfl (fun _ => rfl) wv_X4_31 (Nat.le_of_ble_eq_true rfl) (Nat.le_of_ble_eq_true rfl) (fun g_80 fr_80 w_80 => ?_)
  first | replace p0 := eArr.fr p0 (fr_80 _ (by omega)) | replace p0 := Eq.trans (fr_80 _ (by omega)) p0 | replace p0 := eBo.fr p0 (fr_80 _ (by omega)) | replace p0 := z_80 p0 | replace p0 := z_80
  first | replace p1 := eArr.fr p1 (fr_80 _ (by omega)) | replace p1 := Eq.trans (fr_80 _ (by omega)) p1 | replace p1 := eBo.fr p1 (fr_80 _ (by omega)) | replace p1 := z_80 p1 | replace p1 := z_80
  first | replace p2 := eArr.fr p2 (fr_80 _ (by omega)) | replace p2 := Eq.trans (fr_80 _ (by omega)) p2 | replace p2 := eBo.fr p2 (fr_80 _ (by omega)) | replace p2 := z_80 p2 | replace p2 := z_80
  first | replace p3 := eArr.fr p3 (fr_80 _ (by omega)) | replace p3 := Eq.trans (fr_80 _ (by omega)) p3 | replace p3 := eBo.fr p3 (fr_80 _ (by omega)) | replace p3 := z_80 p3 | replace p3 := z_80
  first | replace p4 := eArr.fr p4 (fr_80 _ (by omega)) | replace p4 := Eq.trans (fr_80 _ (by omega)) p4 | replace p4 := eBo.fr p4 (fr_80 _ (by omega)) | replace p4 := z_80 p4 | replace p4 := z_80
  replace p5 := w_80
  first | replace s0 := eArr.fr s0 (fr_80 _ (by omega)) | replace s0 := Eq.trans (fr_80 _ (by omega)) s0 | replace s0 := eBo.fr s0 (fr_80 _ (by omega)) | replace s0 := z_80 s0 | replace s0 := z_80
  first | replace s1 := eArr.fr s1 (fr_80 _ (by omega)) | replace s1 := Eq.trans (fr_80 _ (by omega)) s1 | replace s1 := eBo.fr s1 (fr_80 _ (by omega)) | replace s1 := z_80 s1 | replace s1 := z_80
  first | replace s2 := eArr.fr s2 (fr_80 _ (by omega)) | replace s2 := Eq.trans (fr_80 _ (by omega)) s2 | replace s2 := eBo.fr s2 (fr_80 _ (by omega)) | replace s2 := z_80 s2 | replace s2 := z_80
  first | replace s3 := eArr.fr s3 (fr_80 _ (by omega)) | replace s3 := Eq.trans (fr_80 _ (by omega)) s3 | replace s3 := eBo.fr s3 (fr_80 _ (by omega)) | replace s3 := z_80 s3 | replace s3 := z_80
  first | replace s4 := eArr.fr s4 (fr_80 _ (by omega)) | replace s4 := Eq.trans (fr_80 _ (by omega)) s4 | replace s4 := eBo.fr s4 (fr_80 _ (by omega)) | replace s4 := z_80 s4 | replace s4 := z_80
  first | replace s5 := eArr.fr s5 (fr_80 _ (by omega)) | replace s5 := Eq.trans (fr_80 _ (by omega)) s5 | replace s5 := eBo.fr s5 (fr_80 _ (by omega)) | replace s5 := z_80 s5 | replace s5 := z_80
  replace FR := eFr.trans FR (eFr.one fr_80 (by omega) (by omega))
  exact ev_vret dX4_copyFrom_83 rfl rfl (by exact ⟨⟨p0, p1, p2, p3, p4, p5⟩, FR⟩) (fun _ e => Option.some.inj e) (Nat.le_of_ble_eq_true rfl) (Nat.le_of_ble_eq_true rfl)
set_option maxHeartbeats 4000000 in
set_option maxRecDepth 20000 in
theorem c_X2_copyFrom {h : eH} {n q s : Nat} {σ τ : St} (hS : eNm h s σ) (hP : eNm h q τ) (hd : q + 9 ≤ s ∨ s + 9 ≤ q) : kX2_copyFrom [.ref q, .ref s] h n (.inl none, (fun g => eNm g q σ ∧ eFr h g q (q + 9)), some n) 0 0 := by
  refine eM.of RX2 "copyFrom" [(0, .ref q), (1, .ref s)] pn_X2 rfl rfl (Nat.le_of_ble_eq_true rfl) rfl ?_
  obtain ⟨p0, p1, p2, p3, p4, p5, p6, p7, p8, p9⟩ := id hP
  obtain ⟨s0, s1, s2, s3, s4, s5, s6, s7, s8, s9⟩ := id hS
  have FR : eFr h h q (q + 9) := eFr.rf
  refine ev_aload_n dX2_copyFrom_0 rfl rfl ?_
  refine ev_aload_n dX2_copyFrom_1 rfl rfl ?_
  refine ev_getfield dX2_copyFrom_2 fl_X2_9 (by first | assumption | omega) rfl ?_
  refine ev_putH dX2_copyFrom_5 pl_X2_9 (by first | assumption | omega) (Nat.le_of_ble_eq_true rfl) rfl rfl (fun g_5 fr_5 w_5 => ?_)
  replace p0 := w_5
  first | replace p1 := eArr.fr p1 (fr_5 _ (by omega)) | replace p1 := Eq.trans (fr_5 _ (by omega)) p1 | replace p1 := eBo.fr p1 (fr_5 _ (by omega)) | replace p1 := z_5 p1 | replace p1 := z_5
  first | replace p2 := eArr.fr p2 (fr_5 _ (by omega)) | replace p2 := Eq.trans (fr_5 _ (by omega)) p2 | replace p2 := eBo.fr p2 (fr_5 _ (by omega)) | replace p2 := z_5 p2 | replace p2 := z_5
  first | replace p3 := eArr.fr p3 (fr_5 _ (by omega)) | replace p3 := Eq.trans (fr_5 _ (by omega)) p3 | replace p3 := eBo.fr p3 (fr_5 _ (by omega)) | replace p3 := z_5 p3 | replace p3 := z_5
  first | replace p4 := eArr.fr p4 (fr_5 _ (by omega)) | replace p4 := Eq.trans (fr_5 _ (by omega)) p4 | replace p4 := eBo.fr p4 (fr_5 _ (by omega)) | replace p4 := z_5 p4 | replace p4 := z_5
  first | replace p5 := eArr.fr p5 (fr_5 _ (by omega)) | replace p5 := Eq.trans (fr_5 _ (by omega)) p5 | replace p5 := eBo.fr p5 (fr_5 _ (by omega)) | replace p5 := z_5 p5 | replace p5 := z_5
  first | replace p6 := eArr.fr p6 (fr_5 _ (by omega)) | replace p6 := Eq.trans (fr_5 _ (by omega)) p6 | replace p6 := eBo.fr p6 (fr_5 _ (by omega)) | replace p6 := z_5 p6 | replace p6 := z_5
  first | replace p7 := eArr.fr p7 (fr_5 _ (by omega)) | replace p7 := Eq.trans (fr_5 _ (by omega)) p7 | replace p7 := eBo.fr p7 (fr_5 _ (by omega)) | replace p7 := z_5 p7 | replace p7 := z_5
  first | replace p8 := eArr.fr p8 (fr_5 _ (by omega)) | replace p8 := Eq.trans (fr_5 _ (by omega)) p8 | replace p8 := eBo.fr p8 (fr_5 _ (by omega)) | replace p8 := z_5 p8 | replace p8 := z_5
  first | replace p9 := eArr.fr p9 (fr_5 _ (by omega)) | replace p9 := Eq.trans (fr_5 _ (by omega)) p9 | replace p9 := eBo.fr p9 (fr_5 _ (by omega)) | replace p9 := z_5 p9 | replace p9 := z_5
  first | replace s0 := eArr.fr s0 (fr_5 _ (by omega)) | replace s0 := Eq.trans (fr_5 _ (by omega)) s0 | replace s0 := eBo.fr s0 (fr_5 _ (by omega)) | replace s0 := z_5 s0 | replace s0 := z_5
  first | replace s1 := eArr.fr s1 (fr_5 _ (by omega)) | replace s1 := Eq.trans (fr_5 _ (by omega)) s1 | replace s1 := eBo.fr s1 (fr_5 _ (by omega)) | replace s1 := z_5 s1 | replace s1 := z_5
  first | replace s2 := eArr.fr s2 (fr_5 _ (by omega)) | replace s2 := Eq.trans (fr_5 _ (by omega)) s2 | replace s2 := eBo.fr s2 (fr_5 _ (by omega)) | replace s2 := z_5 s2 | replace s2 := z_5
  first | replace s3 := eArr.fr s3 (fr_5 _ (by omega)) | replace s3 := Eq.trans (fr_5 _ (by omega)) s3 | replace s3 := eBo.fr s3 (fr_5 _ (by omega)) | replace s3 := z_5 s3 | replace s3 := z_5
  first | replace s4 := eArr.fr s4 (fr_5 _ (by omega)) | replace s4 := Eq.trans (fr_5 _ (by omega)) s4 | replace s4 := eBo.fr s4 (fr_5 _ (by omega)) | replace s4 := z_5 s4 | replace s4 := z_5
  first | replace s5 := eArr.fr s5 (fr_5 _ (by omega)) | replace s5 := Eq.trans (fr_5 _ (by omega)) s5 | replace s5 := eBo.fr s5 (fr_5 _ (by omega)) | replace s5 := z_5 s5 | replace s5 := z_5
  first | replace s6 := eArr.fr s6 (fr_5 _ (by omega)) | replace s6 := Eq.trans (fr_5 _ (by omega)) s6 | replace s6 := eBo.fr s6 (fr_5 _ (by omega)) | replace s6 := z_5 s6 | replace s6 := z_5
  first | replace s7 := eArr.fr s7 (fr_5 _ (by omega)) | replace s7 := Eq.trans (fr_5 _ (by omega)) s7 | replace s7 := eBo.fr s7 (fr_5 _ (by omega)) | replace s7 := z_5 s7 | replace s7 := z_5
  first | replace s8 := eArr.fr s8 (fr_5 _ (by omega)) | replace s8 := Eq.trans (fr_5 _ (by omega)) s8 | replace s8 := eBo.fr s8 (fr_5 _ (by omega)) | replace s8 := z_5 s8 | replace s8 := z_5
  first | replace s9 := eArr.fr s9 (fr_5 _ (by omega)) | replace s9 := Eq.trans (fr_5 _ (by omega)) s9 | replace s9 := eBo.fr s9 (fr_5 _ (by omega)) | replace s9 := z_5 s9 | replace s9 := z_5
  replace FR := eFr.trans FR (eFr.one fr_5 (by omega) (by omega))
  refine ev_aload_n dX2_copyFrom_8 rfl rfl ?_
  refine ev_getfield dX2_copyFrom_9 fl_X2_15 (by first | assumption | omega) rfl ?_
  refine ev_iconst (v := nI 0) dX2_copyFrom_12 rfl ?_
  refine ev_aload_n dX2_copyFrom_13 rfl rfl ?_
  refine ev_getfield dX2_copyFrom_14 fl_X2_15 (by first | assumption | omega) rfl ?_
  refine ev_iconst (v := nI 0) dX2_copyFrom_17 rfl ?_
  refine ev_bipush (v := nI 40) dX2_copyFrom_18 rfl ?_
  refine ev_copyA dX2_copyFrom_20 (by first | assumption | omega) (by first | assumption | omega) (fun _ => rfl) rfl (fun _ => rfl) wv_X2_41 (Nat.le_of_ble_eq_true rfl) (Nat.le_of_ble_eq_true rfl) (fun g_20 fr_20 w_20 => ?_)
  first | replace p0 := eArr.fr p0 (fr_20 _ (by omega)) | replace p0 := Eq.trans (fr_20 _ (by omega)) p0 | replace p0 := eBo.fr p0 (fr_20 _ (by omega)) | replace p0 := z_20 p0 | replace p0 := z_20
  replace p1 := w_20
  first | replace p2 := eArr.fr p2 (fr_20 _ (by omega)) | replace p2 := Eq.trans (fr_20 _ (by omega)) p2 | replace p2 := eBo.fr p2 (fr_20 _ (by omega)) | replace p2 := z_20 p2 | replace p2 := z_20
  first | replace p3 := eArr.fr p3 (fr_20 _ (by omega)) | replace p3 := Eq.trans (fr_20 _ (by omega)) p3 | replace p3 := eBo.fr p3 (fr_20 _ (by omega)) | replace p3 := z_20 p3 | replace p3 := z_20
  first | replace p4 := eArr.fr p4 (fr_20 _ (by omega)) | replace p4 := Eq.trans (fr_20 _ (by omega)) p4 | replace p4 := eBo.fr p4 (fr_20 _ (by omega)) | replace p4 := z_20 p4 | replace p4 := z_20
  first | replace p5 := eArr.fr p5 (fr_20 _ (by omega)) | replace p5 := Eq.trans (fr_20 _ (by omega)) p5 | replace p5 := eBo.fr p5 (fr_20 _ (by omega)) | replace p5 := z_20 p5 | replace p5 := z_20
  first | replace p6 := eArr.fr p6 (fr_20 _ (by omega)) | replace p6 := Eq.trans (fr_20 _ (by omega)) p6 | replace p6 := eBo.fr p6 (fr_20 _ (by omega)) | replace p6 := z_20 p6 | replace p6 := z_20
  first | replace p7 := eArr.fr p7 (fr_20 _ (by omega)) | replace p7 := Eq.trans (fr_20 _ (by omega)) p7 | replace p7 := eBo.fr p7 (fr_20 _ (by omega)) | replace p7 := z_20 p7 | replace p7 := z_20
  first | replace p8 := eArr.fr p8 (fr_20 _ (by omega)) | replace p8 := Eq.trans (fr_20 _ (by omega)) p8 | replace p8 := eBo.fr p8 (fr_20 _ (by omega)) | replace p8 := z_20 p8 | replace p8 := z_20
  first | replace p9 := eArr.fr p9 (fr_20 _ (by omega)) | replace p9 := Eq.trans (fr_20 _ (by omega)) p9 | replace p9 := eBo.fr p9 (fr_20 _ (by omega)) | replace p9 := z_20 p9 | replace p9 := z_20
  first | replace s0 := eArr.fr s0 (fr_20 _ (by omega)) | replace s0 := Eq.trans (fr_20 _ (by omega)) s0 | replace s0 := eBo.fr s0 (fr_20 _ (by omega)) | replace s0 := z_20 s0 | replace s0 := z_20
  first | replace s1 := eArr.fr s1 (fr_20 _ (by omega)) | replace s1 := Eq.trans (fr_20 _ (by omega)) s1 | replace s1 := eBo.fr s1 (fr_20 _ (by omega)) | replace s1 := z_20 s1 | replace s1 := z_20
  first | replace s2 := eArr.fr s2 (fr_20 _ (by omega)) | replace s2 := Eq.trans (fr_20 _ (by omega)) s2 | replace s2 := eBo.fr s2 (fr_20 _ (by omega)) | replace s2 := z_20 s2 | replace s2 := z_20
  first | replace s3 := eArr.fr s3 (fr_20 _ (by omega)) | replace s3 := Eq.trans (fr_20 _ (by omega)) s3 | replace s3 := eBo.fr s3 (fr_20 _ (by omega)) | replace s3 := z_20 s3 | replace s3 := z_20
  first | replace s4 := eArr.fr s4 (fr_20 _ (by omega)) | replace s4 := Eq.trans (fr_20 _ (by omega)) s4 | replace s4 := eBo.fr s4 (fr_20 _ (by omega)) | replace s4 := z_20 s4 | replace s4 := z_20
  first | replace s5 := eArr.fr s5 (fr_20 _ (by omega)) | replace s5 := Eq.trans (fr_20 _ (by omega)) s5 | replace s5 := eBo.fr s5 (fr_20 _ (by omega)) | replace s5 := z_20 s5 | replace s5 := z_20
  first | replace s6 := eArr.fr s6 (fr_20 _ (by omega)) | replace s6 := Eq.trans (fr_20 _ (by omega)) s6 | replace s6 := eBo.fr s6 (fr_20 _ (by omega)) | replace s6 := z_20 s6 | replace s6 := z_20
  first | replace s7 := eArr.fr s7 (fr_20 _ (by omega)) | replace s7 := Eq.trans (fr_20 _ (by omega)) s7 | replace s7 := eBo.fr s7 (fr_20 _ (by omega)) | replace s7 := z_20 s7 | replace s7 := z_20
  first | replace s8 := eArr.fr s8 (fr_20 _ (by omega)) | replace s8 := Eq.trans (fr_20 _ (by omega)) s8 | replace s8 := eBo.fr s8 (fr_20 _ (by omega)) | replace s8 := z_20 s8 | replace s8 := z_20
  first | replace s9 := eArr.fr s9 (fr_20 _ (by omega)) | replace s9 := Eq.trans (fr_20 _ (by omega)) s9 | replace s9 := eBo.fr s9 (fr_20 _ (by omega)) | replace s9 := z_20 s9 | replace s9 := z_20
  replace FR := eFr.trans FR (eFr.one fr_20 (by omega) (by omega))
  refine ev_aload_n dX2_copyFrom_23 rfl rfl ?_
  refine ev_getfield dX2_copyFrom_24 fl_X2_19 (by first | assumption | omega) rfl ?_
  refine ev_iconst (v := nI 0) dX2_copyFrom_27 rfl ?_
  refine ev_aload_n dX2_copyFrom_28 rfl rfl ?_
  refine ev_getfield dX2_copyFrom_29 fl_X2_19 (by first | assumption | omega) rfl ?_
  refine ev_iconst (v := nI 0) dX2_copyFrom_32 rfl ?_
  refine ev_bipush (v := nI 40) dX2_copyFrom_33 rfl ?_
  refine ev_copyA dX2_copyFrom_35 (by first | assumption | omega) (by first | assumption | omega) (fun _ => rfl) rfl (fun _ => rfl) wv_X2_41 (Nat.le_of_ble_eq_true rfl) (Nat.le_of_ble_eq_true rfl) (fun g_35 fr_35 w_35 => ?_)
  first | replace p0 := eArr.fr p0 (fr_35 _ (by omega)) | replace p0 := Eq.trans (fr_35 _ (by omega)) p0 | replace p0 := eBo.fr p0 (fr_35 _ (by omega)) | replace p0 := z_35 p0 | replace p0 := z_35
  first | replace p1 := eArr.fr p1 (fr_35 _ (by omega)) | replace p1 := Eq.trans (fr_35 _ (by omega)) p1 | replace p1 := eBo.fr p1 (fr_35 _ (by omega)) | replace p1 := z_35 p1 | replace p1 := z_35
  replace p2 := w_35
  first | replace p3 := eArr.fr p3 (fr_35 _ (by omega)) | replace p3 := Eq.trans (fr_35 _ (by omega)) p3 | replace p3 := eBo.fr p3 (fr_35 _ (by omega)) | replace p3 := z_35 p3 | replace p3 := z_35
  first | replace p4 := eArr.fr p4 (fr_35 _ (by omega)) | replace p4 := Eq.trans (fr_35 _ (by omega)) p4 | replace p4 := eBo.fr p4 (fr_35 _ (by omega)) | replace p4 := z_35 p4 | replace p4 := z_35
  first | replace p5 := eArr.fr p5 (fr_35 _ (by omega)) | replace p5 := Eq.trans (fr_35 _ (by omega)) p5 | replace p5 := eBo.fr p5 (fr_35 _ (by omega)) | replace p5 := z_35 p5 | replace p5 := z_35
  first | replace p6 := eArr.fr p6 (fr_35 _ (by omega)) | replace p6 := Eq.trans (fr_35 _ (by omega)) p6 | replace p6 := eBo.fr p6 (fr_35 _ (by omega)) | replace p6 := z_35 p6 | replace p6 := z_35
  first | replace p7 := eArr.fr p7 (fr_35 _ (by omega)) | replace p7 := Eq.trans (fr_35 _ (by omega)) p7 | replace p7 := eBo.fr p7 (fr_35 _ (by omega)) | replace p7 := z_35 p7 | replace p7 := z_35
  first | replace p8 := eArr.fr p8 (fr_35 _ (by omega)) | replace p8 := Eq.trans (fr_35 _ (by omega)) p8 | replace p8 := eBo.fr p8 (fr_35 _ (by omega)) | replace p8 := z_35 p8 | replace p8 := z_35
  first | replace p9 := eArr.fr p9 (fr_35 _ (by omega)) | replace p9 := Eq.trans (fr_35 _ (by omega)) p9 | replace p9 := eBo.fr p9 (fr_35 _ (by omega)) | replace p9 := z_35 p9 | replace p9 := z_35
  first | replace s0 := eArr.fr s0 (fr_35 _ (by omega)) | replace s0 := Eq.trans (fr_35 _ (by omega)) s0 | replace s0 := eBo.fr s0 (fr_35 _ (by omega)) | replace s0 := z_35 s0 | replace s0 := z_35
  first | replace s1 := eArr.fr s1 (fr_35 _ (by omega)) | replace s1 := Eq.trans (fr_35 _ (by omega)) s1 | replace s1 := eBo.fr s1 (fr_35 _ (by omega)) | replace s1 := z_35 s1 | replace s1 := z_35
  first | replace s2 := eArr.fr s2 (fr_35 _ (by omega)) | replace s2 := Eq.trans (fr_35 _ (by omega)) s2 | replace s2 := eBo.fr s2 (fr_35 _ (by omega)) | replace s2 := z_35 s2 | replace s2 := z_35
  first | replace s3 := eArr.fr s3 (fr_35 _ (by omega)) | replace s3 := Eq.trans (fr_35 _ (by omega)) s3 | replace s3 := eBo.fr s3 (fr_35 _ (by omega)) | replace s3 := z_35 s3 | replace s3 := z_35
  first | replace s4 := eArr.fr s4 (fr_35 _ (by omega)) | replace s4 := Eq.trans (fr_35 _ (by omega)) s4 | replace s4 := eBo.fr s4 (fr_35 _ (by omega)) | replace s4 := z_35 s4 | replace s4 := z_35
  first | replace s5 := eArr.fr s5 (fr_35 _ (by omega)) | replace s5 := Eq.trans (fr_35 _ (by omega)) s5 | replace s5 := eBo.fr s5 (fr_35 _ (by omega)) | replace s5 := z_35 s5 | replace s5 := z_35
  first | replace s6 := eArr.fr s6 (fr_35 _ (by omega)) | replace s6 := Eq.trans (fr_35 _ (by omega)) s6 | replace s6 := eBo.fr s6 (fr_35 _ (by omega)) | replace s6 := z_35 s6 | replace s6 := z_35
  first | replace s7 := eArr.fr s7 (fr_35 _ (by omega)) | replace s7 := Eq.trans (fr_35 _ (by omega)) s7 | replace s7 := eBo.fr s7 (fr_35 _ (by omega)) | replace s7 := z_35 s7 | replace s7 := z_35
  first | replace s8 := eArr.fr s8 (fr_35 _ (by omega)) | replace s8 := Eq.trans (fr_35 _ (by omega)) s8 | replace s8 := eBo.fr s8 (fr_35 _ (by omega)) | replace s8 := z_35 s8 | replace s8 := z_35
  first | replace s9 := eArr.fr s9 (fr_35 _ (by omega)) | replace s9 := Eq.trans (fr_35 _ (by omega)) s9 | replace s9 := eBo.fr s9 (fr_35 _ (by omega)) | replace s9 := z_35 s9 | replace s9 := z_35
  replace FR := eFr.trans FR (eFr.one fr_35 (by omega) (by omega))
  refine ev_aload_n dX2_copyFrom_38 rfl rfl ?_
  refine ev_getfield dX2_copyFrom_39 fl_X2_22 (by first | assumption | omega) rfl ?_
  refine ev_iconst (v := nI 0) dX2_copyFrom_42 rfl ?_
  refine ev_aload_n dX2_copyFrom_43 rfl rfl ?_
  refine ev_getfield dX2_copyFrom_44 fl_X2_22 (by first | assumption | omega) rfl ?_
  refine ev_iconst (v := nI 0) dX2_copyFrom_47 rfl ?_
  refine ev_bipush (v := nI 40) dX2_copyFrom_48 rfl ?_
  refine ev_copyA dX2_copyFrom_50 (by first | assumption | omega) (by first | assumption | omega) (fun _ => rfl) rfl (fun _ => rfl) wv_X2_41 (Nat.le_of_ble_eq_true rfl) (Nat.le_of_ble_eq_true rfl) (fun g_50 fr_50 w_50 => ?_)
  first | replace p0 := eArr.fr p0 (fr_50 _ (by omega)) | replace p0 := Eq.trans (fr_50 _ (by omega)) p0 | replace p0 := eBo.fr p0 (fr_50 _ (by omega)) | replace p0 := z_50 p0 | replace p0 := z_50
  first | replace p1 := eArr.fr p1 (fr_50 _ (by omega)) | replace p1 := Eq.trans (fr_50 _ (by omega)) p1 | replace p1 := eBo.fr p1 (fr_50 _ (by omega)) | replace p1 := z_50 p1 | replace p1 := z_50
  first | replace p2 := eArr.fr p2 (fr_50 _ (by omega)) | replace p2 := Eq.trans (fr_50 _ (by omega)) p2 | replace p2 := eBo.fr p2 (fr_50 _ (by omega)) | replace p2 := z_50 p2 | replace p2 := z_50
  replace p3 := w_50
  first | replace p4 := eArr.fr p4 (fr_50 _ (by omega)) | replace p4 := Eq.trans (fr_50 _ (by omega)) p4 | replace p4 := eBo.fr p4 (fr_50 _ (by omega)) | replace p4 := z_50 p4 | replace p4 := z_50
  first | replace p5 := eArr.fr p5 (fr_50 _ (by omega)) | replace p5 := Eq.trans (fr_50 _ (by omega)) p5 | replace p5 := eBo.fr p5 (fr_50 _ (by omega)) | replace p5 := z_50 p5 | replace p5 := z_50
  first | replace p6 := eArr.fr p6 (fr_50 _ (by omega)) | replace p6 := Eq.trans (fr_50 _ (by omega)) p6 | replace p6 := eBo.fr p6 (fr_50 _ (by omega)) | replace p6 := z_50 p6 | replace p6 := z_50
  first | replace p7 := eArr.fr p7 (fr_50 _ (by omega)) | replace p7 := Eq.trans (fr_50 _ (by omega)) p7 | replace p7 := eBo.fr p7 (fr_50 _ (by omega)) | replace p7 := z_50 p7 | replace p7 := z_50
  first | replace p8 := eArr.fr p8 (fr_50 _ (by omega)) | replace p8 := Eq.trans (fr_50 _ (by omega)) p8 | replace p8 := eBo.fr p8 (fr_50 _ (by omega)) | replace p8 := z_50 p8 | replace p8 := z_50
  first | replace p9 := eArr.fr p9 (fr_50 _ (by omega)) | replace p9 := Eq.trans (fr_50 _ (by omega)) p9 | replace p9 := eBo.fr p9 (fr_50 _ (by omega)) | replace p9 := z_50 p9 | replace p9 := z_50
  first | replace s0 := eArr.fr s0 (fr_50 _ (by omega)) | replace s0 := Eq.trans (fr_50 _ (by omega)) s0 | replace s0 := eBo.fr s0 (fr_50 _ (by omega)) | replace s0 := z_50 s0 | replace s0 := z_50
  first | replace s1 := eArr.fr s1 (fr_50 _ (by omega)) | replace s1 := Eq.trans (fr_50 _ (by omega)) s1 | replace s1 := eBo.fr s1 (fr_50 _ (by omega)) | replace s1 := z_50 s1 | replace s1 := z_50
  first | replace s2 := eArr.fr s2 (fr_50 _ (by omega)) | replace s2 := Eq.trans (fr_50 _ (by omega)) s2 | replace s2 := eBo.fr s2 (fr_50 _ (by omega)) | replace s2 := z_50 s2 | replace s2 := z_50
  first | replace s3 := eArr.fr s3 (fr_50 _ (by omega)) | replace s3 := Eq.trans (fr_50 _ (by omega)) s3 | replace s3 := eBo.fr s3 (fr_50 _ (by omega)) | replace s3 := z_50 s3 | replace s3 := z_50
  first | replace s4 := eArr.fr s4 (fr_50 _ (by omega)) | replace s4 := Eq.trans (fr_50 _ (by omega)) s4 | replace s4 := eBo.fr s4 (fr_50 _ (by omega)) | replace s4 := z_50 s4 | replace s4 := z_50
  first | replace s5 := eArr.fr s5 (fr_50 _ (by omega)) | replace s5 := Eq.trans (fr_50 _ (by omega)) s5 | replace s5 := eBo.fr s5 (fr_50 _ (by omega)) | replace s5 := z_50 s5 | replace s5 := z_50
  first | replace s6 := eArr.fr s6 (fr_50 _ (by omega)) | replace s6 := Eq.trans (fr_50 _ (by omega)) s6 | replace s6 := eBo.fr s6 (fr_50 _ (by omega)) | replace s6 := z_50 s6 | replace s6 := z_50
  first | replace s7 := eArr.fr s7 (fr_50 _ (by omega)) | replace s7 := Eq.trans (fr_50 _ (by omega)) s7 | replace s7 := eBo.fr s7 (fr_50 _ (by omega)) | replace s7 := z_50 s7 | replace s7 := z_50
  first | replace s8 := eArr.fr s8 (fr_50 _ (by omega)) | replace s8 := Eq.trans (fr_50 _ (by omega)) s8 | replace s8 := eBo.fr s8 (fr_50 _ (by omega)) | replace s8 := z_50 s8 | replace s8 := z_50
  first | replace s9 := eArr.fr s9 (fr_50 _ (by omega)) | replace s9 := Eq.trans (fr_50 _ (by omega)) s9 | replace s9 := eBo.fr s9 (fr_50 _ (by omega)) | replace s9 := z_50 s9 | replace s9 := z_50
  replace FR := eFr.trans FR (eFr.one fr_50 (by omega) (by omega))
  refine ev_aload_n dX2_copyFrom_53 rfl rfl ?_
  refine ev_getfield dX2_copyFrom_54 fl_X2_25 (by first | assumption | omega) rfl ?_
  refine ev_iconst (v := nI 0) dX2_copyFrom_57 rfl ?_
  refine ev_aload_n dX2_copyFrom_58 rfl rfl ?_
  refine ev_getfield dX2_copyFrom_59 fl_X2_25 (by first | assumption | omega) rfl ?_
  refine ev_iconst (v := nI 0) dX2_copyFrom_62 rfl ?_
  refine ev_bipush (v := nI 40) dX2_copyFrom_63 rfl ?_
  refine ev_copyA dX2_copyFrom_65 (by first | assumption | omega) (by first | assumption | omega) (fun _ => rfl) rfl (fun _ => rfl) wv_X2_41 (Nat.le_of_ble_eq_true rfl) (Nat.le_of_ble_eq_true rfl) (fun g_65 fr_65 w_65 => ?_)
  first | replace p0 := eArr.fr p0 (fr_65 _ (by omega)) | replace p0 := Eq.trans (fr_65 _ (by omega)) p0 | replace p0 := eBo.fr p0 (fr_65 _ (by omega)) | replace p0 := z_65 p0 | replace p0 := z_65
  first | replace p1 := eArr.fr p1 (fr_65 _ (by omega)) | replace p1 := Eq.trans (fr_65 _ (by omega)) p1 | replace p1 := eBo.fr p1 (fr_65 _ (by omega)) | replace p1 := z_65 p1 | replace p1 := z_65
  first | replace p2 := eArr.fr p2 (fr_65 _ (by omega)) | replace p2 := Eq.trans (fr_65 _ (by omega)) p2 | replace p2 := eBo.fr p2 (fr_65 _ (by omega)) | replace p2 := z_65 p2 | replace p2 := z_65
  first | replace p3 := eArr.fr p3 (fr_65 _ (by omega)) | replace p3 := Eq.trans (fr_65 _ (by omega)) p3 | replace p3 := eBo.fr p3 (fr_65 _ (by omega)) | replace p3 := z_65 p3 | replace p3 := z_65
  replace p4 := w_65
  first | replace p5 := eArr.fr p5 (fr_65 _ (by omega)) | replace p5 := Eq.trans (fr_65 _ (by omega)) p5 | replace p5 := eBo.fr p5 (fr_65 _ (by omega)) | replace p5 := z_65 p5 | replace p5 := z_65
  first | replace p6 := eArr.fr p6 (fr_65 _ (by omega)) | replace p6 := Eq.trans (fr_65 _ (by omega)) p6 | replace p6 := eBo.fr p6 (fr_65 _ (by omega)) | replace p6 := z_65 p6 | replace p6 := z_65
  first | replace p7 := eArr.fr p7 (fr_65 _ (by omega)) | replace p7 := Eq.trans (fr_65 _ (by omega)) p7 | replace p7 := eBo.fr p7 (fr_65 _ (by omega)) | replace p7 := z_65 p7 | replace p7 := z_65
  first | replace p8 := eArr.fr p8 (fr_65 _ (by omega)) | replace p8 := Eq.trans (fr_65 _ (by omega)) p8 | replace p8 := eBo.fr p8 (fr_65 _ (by omega)) | replace p8 := z_65 p8 | replace p8 := z_65
  first | replace p9 := eArr.fr p9 (fr_65 _ (by omega)) | replace p9 := Eq.trans (fr_65 _ (by omega)) p9 | replace p9 := eBo.fr p9 (fr_65 _ (by omega)) | replace p9 := z_65 p9 | replace p9 := z_65
  first | replace s0 := eArr.fr s0 (fr_65 _ (by omega)) | replace s0 := Eq.trans (fr_65 _ (by omega)) s0 | replace s0 := eBo.fr s0 (fr_65 _ (by omega)) | replace s0 := z_65 s0 | replace s0 := z_65
  first | replace s1 := eArr.fr s1 (fr_65 _ (by omega)) | replace s1 := Eq.trans (fr_65 _ (by omega)) s1 | replace s1 := eBo.fr s1 (fr_65 _ (by omega)) | replace s1 := z_65 s1 | replace s1 := z_65
  first | replace s2 := eArr.fr s2 (fr_65 _ (by omega)) | replace s2 := Eq.trans (fr_65 _ (by omega)) s2 | replace s2 := eBo.fr s2 (fr_65 _ (by omega)) | replace s2 := z_65 s2 | replace s2 := z_65
  first | replace s3 := eArr.fr s3 (fr_65 _ (by omega)) | replace s3 := Eq.trans (fr_65 _ (by omega)) s3 | replace s3 := eBo.fr s3 (fr_65 _ (by omega)) | replace s3 := z_65 s3 | replace s3 := z_65
  first | replace s4 := eArr.fr s4 (fr_65 _ (by omega)) | replace s4 := Eq.trans (fr_65 _ (by omega)) s4 | replace s4 := eBo.fr s4 (fr_65 _ (by omega)) | replace s4 := z_65 s4 | replace s4 := z_65
  first | replace s5 := eArr.fr s5 (fr_65 _ (by omega)) | replace s5 := Eq.trans (fr_65 _ (by omega)) s5 | replace s5 := eBo.fr s5 (fr_65 _ (by omega)) | replace s5 := z_65 s5 | replace s5 := z_65
  first | replace s6 := eArr.fr s6 (fr_65 _ (by omega)) | replace s6 := Eq.trans (fr_65 _ (by omega)) s6 | replace s6 := eBo.fr s6 (fr_65 _ (by omega)) | replace s6 := z_65 s6 | replace s6 := z_65
  first | replace s7 := eArr.fr s7 (fr_65 _ (by omega)) | replace s7 := Eq.trans (fr_65 _ (by omega)) s7 | replace s7 := eBo.fr s7 (fr_65 _ (by omega)) | replace s7 := z_65 s7 | replace s7 := z_65
  first | replace s8 := eArr.fr s8 (fr_65 _ (by omega)) | replace s8 := Eq.trans (fr_65 _ (by omega)) s8 | replace s8 := eBo.fr s8 (fr_65 _ (by omega)) | replace s8 := z_65 s8 | replace s8 := z_65
  first | replace s9 := eArr.fr s9 (fr_65 _ (by omega)) | replace s9 := Eq.trans (fr_65 _ (by omega)) s9 | replace s9 := eBo.fr s9 (fr_65 _ (by omega)) | replace s9 := z_65 s9 | replace s9 := z_65
  replace FR := eFr.trans FR (eFr.one fr_65 (by omega) (by omega))
  refine ev_aload_n dX2_copyFrom_68 rfl rfl ?_
  refine ev_getfield dX2_copyFrom_69 fl_X2_28 (by first | assumption | omega) rfl ?_
  refine ev_iconst (v := nI 0) dX2_copyFrom_72 rfl ?_
  refine ev_aload_n dX2_copyFrom_73 rfl rfl ?_
  refine ev_getfield dX2_copyFrom_74 fl_X2_28 (by first | assumption | omega) rfl ?_
  refine ev_iconst (v := nI 0) dX2_copyFrom_77 rfl ?_
  refine ev_bipush (v := nI 40) dX2_copyFrom_78 rfl ?_
  refine ev_copyA dX2_copyFrom_80 (by first | assumption | omega) (by first | assumption | omega) (fun _ => rfl) rfl (fun _ => rfl) wv_X2_41 (Nat.le_of_ble_eq_true rfl) (Nat.le_of_ble_eq_true rfl) (fun g_80 fr_80 w_80 => ?_)
  first | replace p0 := eArr.fr p0 (fr_80 _ (by omega)) | replace p0 := Eq.trans (fr_80 _ (by omega)) p0 | replace p0 := eBo.fr p0 (fr_80 _ (by omega)) | replace p0 := z_80 p0 | replace p0 := z_80
  first | replace p1 := eArr.fr p1 (fr_80 _ (by omega)) | replace p1 := Eq.trans (fr_80 _ (by omega)) p1 | replace p1 := eBo.fr p1 (fr_80 _ (by omega)) | replace p1 := z_80 p1 | replace p1 := z_80
  first | replace p2 := eArr.fr p2 (fr_80 _ (by omega)) | replace p2 := Eq.trans (fr_80 _ (by omega)) p2 | replace p2 := eBo.fr p2 (fr_80 _ (by omega)) | replace p2 := z_80 p2 | replace p2 := z_80
  first | replace p3 := eArr.fr p3 (fr_80 _ (by omega)) | replace p3 := Eq.trans (fr_80 _ (by omega)) p3 | replace p3 := eBo.fr p3 (fr_80 _ (by omega)) | replace p3 := z_80 p3 | replace p3 := z_80
  first | replace p4 := eArr.fr p4 (fr_80 _ (by omega)) | replace p4 := Eq.trans (fr_80 _ (by omega)) p4 | replace p4 := eBo.fr p4 (fr_80 _ (by omega)) | replace p4 := z_80 p4 | replace p4 := z_80
  replace p5 := w_80
  first | replace p6 := eArr.fr p6 (fr_80 _ (by omega)) | replace p6 := Eq.trans (fr_80 _ (by omega)) p6 | replace p6 := eBo.fr p6 (fr_80 _ (by omega)) | replace p6 := z_80 p6 | replace p6 := z_80
  first | replace p7 := eArr.fr p7 (fr_80 _ (by omega)) | replace p7 := Eq.trans (fr_80 _ (by omega)) p7 | replace p7 := eBo.fr p7 (fr_80 _ (by omega)) | replace p7 := z_80 p7 | replace p7 := z_80
  first | replace p8 := eArr.fr p8 (fr_80 _ (by omega)) | replace p8 := Eq.trans (fr_80 _ (by omega)) p8 | replace p8 := eBo.fr p8 (fr_80 _ (by omega)) | replace p8 := z_80 p8 | replace p8 := z_80
  first | replace p9 := eArr.fr p9 (fr_80 _ (by omega)) | replace p9 := Eq.trans (fr_80 _ (by omega)) p9 | replace p9 := eBo.fr p9 (fr_80 _ (by omega)) | replace p9 := z_80 p9 | replace p9 := z_80
  first | replace s0 := eArr.fr s0 (fr_80 _ (by omega)) | replace s0 := Eq.trans (fr_80 _ (by omega)) s0 | replace s0 := eBo.fr s0 (fr_80 _ (by omega)) | replace s0 := z_80 s0 | replace s0 := z_80
  first | replace s1 := eArr.fr s1 (fr_80 _ (by omega)) | replace s1 := Eq.trans (fr_80 _ (by omega)) s1 | replace s1 := eBo.fr s1 (fr_80 _ (by omega)) | replace s1 := z_80 s1 | replace s1 := z_80
  first | replace s2 := eArr.fr s2 (fr_80 _ (by omega)) | replace s2 := Eq.trans (fr_80 _ (by omega)) s2 | replace s2 := eBo.fr s2 (fr_80 _ (by omega)) | replace s2 := z_80 s2 | replace s2 := z_80
  first | replace s3 := eArr.fr s3 (fr_80 _ (by omega)) | replace s3 := Eq.trans (fr_80 _ (by omega)) s3 | replace s3 := eBo.fr s3 (fr_80 _ (by omega)) | replace s3 := z_80 s3 | replace s3 := z_80
  first | replace s4 := eArr.fr s4 (fr_80 _ (by omega)) | replace s4 := Eq.trans (fr_80 _ (by omega)) s4 | replace s4 := eBo.fr s4 (fr_80 _ (by omega)) | replace s4 := z_80 s4 | replace s4 := z_80
  first | replace s5 := eArr.fr s5 (fr_80 _ (by omega)) | replace s5 := Eq.trans (fr_80 _ (by omega)) s5 | replace s5 := eBo.fr s5 (fr_80 _ (by omega)) | replace s5 := z_80 s5 | replace s5 := z_80
  first | replace s6 := eArr.fr s6 (fr_80 _ (by omega)) | replace s6 := Eq.trans (fr_80 _ (by omega)) s6 | replace s6 := eBo.fr s6 (fr_80 _ (by omega)) | replace s6 := z_80 s6 | replace s6 := z_80
  first | replace s7 := eArr.fr s7 (fr_80 _ (by omega)) | replace s7 := Eq.trans (fr_80 _ (by omega)) s7 | replace s7 := eBo.fr s7 (fr_80 _ (by omega)) | replace s7 := z_80 s7 | replace s7 := z_80
  first | replace s8 := eArr.fr s8 (fr_80 _ (by omega)) | replace s8 := Eq.trans (fr_80 _ (by omega)) s8 | replace s8 := eBo.fr s8 (fr_80 _ (by omega)) | replace s8 := z_80 s8 | replace s8 := z_80
  first | replace s9 := eArr.fr s9 (fr_80 _ (by omega)) | replace s9 := Eq.trans (fr_80 _ (by omega)) s9 | replace s9 := eBo.fr s9 (fr_80 _ (by omega)) | replace s9 := z_80 s9 | replace s9 := z_80
  replace FR := eFr.trans FR (eFr.one fr_80 (by omega) (by omega))
  refine ev_aload_n dX2_copyFrom_83 rfl rfl ?_
  refine ev_getfield dX2_copyFrom_84 fl_X2_31 (by first | assumption | omega) rfl ?_
  refine ev_iconst (v := nI 0) dX2_copyFrom_87 rfl ?_
  refine ev_aload_n dX2_copyFrom_88 rfl rfl ?_
  refine ev_getfield dX2_copyFrom_89 fl_X2_31 (by first | assumption | omega) rfl ?_
  refine ev_iconst (v := nI 0) dX2_copyFrom_92 rfl ?_
  refine ev_bipush (v := nI 40) dX2_copyFrom_93 rfl ?_
  refine ev_copyA dX2_copyFrom_95 (by first | assumption | omega) (by first | assumption | omega) (fun _ => rfl) rfl (fun _ => rfl) wv_X2_41 (Nat.le_of_ble_eq_true rfl) (Nat.le_of_ble_eq_true rfl) (fun g_95 fr_95 w_95 => ?_)
  first | replace p0 := eArr.fr p0 (fr_95 _ (by omega)) | replace p0 := Eq.trans (fr_95 _ (by omega)) p0 | replace p0 := eBo.fr p0 (fr_95 _ (by omega)) | replace p0 := z_95 p0 | replace p0 := z_95
  first | replace p1 := eArr.fr p1 (fr_95 _ (by omega)) | replace p1 := Eq.trans (fr_95 _ (by omega)) p1 | replace p1 := eBo.fr p1 (fr_95 _ (by omega)) | replace p1 := z_95 p1 | replace p1 := z_95
  first | replace p2 := eArr.fr p2 (fr_95 _ (by omega)) | replace p2 := Eq.trans (fr_95 _ (by omega)) p2 | replace p2 := eBo.fr p2 (fr_95 _ (by omega)) | replace p2 := z_95 p2 | replace p2 := z_95
  first | replace p3 := eArr.fr p3 (fr_95 _ (by omega)) | replace p3 := Eq.trans (fr_95 _ (by omega)) p3 | replace p3 := eBo.fr p3 (fr_95 _ (by omega)) | replace p3 := z_95 p3 | replace p3 := z_95
  first | replace p4 := eArr.fr p4 (fr_95 _ (by omega)) | replace p4 := Eq.trans (fr_95 _ (by omega)) p4 | replace p4 := eBo.fr p4 (fr_95 _ (by omega)) | replace p4 := z_95 p4 | replace p4 := z_95
  first | replace p5 := eArr.fr p5 (fr_95 _ (by omega)) | replace p5 := Eq.trans (fr_95 _ (by omega)) p5 | replace p5 := eBo.fr p5 (fr_95 _ (by omega)) | replace p5 := z_95 p5 | replace p5 := z_95
  replace p6 := w_95
  first | replace p7 := eArr.fr p7 (fr_95 _ (by omega)) | replace p7 := Eq.trans (fr_95 _ (by omega)) p7 | replace p7 := eBo.fr p7 (fr_95 _ (by omega)) | replace p7 := z_95 p7 | replace p7 := z_95
  first | replace p8 := eArr.fr p8 (fr_95 _ (by omega)) | replace p8 := Eq.trans (fr_95 _ (by omega)) p8 | replace p8 := eBo.fr p8 (fr_95 _ (by omega)) | replace p8 := z_95 p8 | replace p8 := z_95
  first | replace p9 := eArr.fr p9 (fr_95 _ (by omega)) | replace p9 := Eq.trans (fr_95 _ (by omega)) p9 | replace p9 := eBo.fr p9 (fr_95 _ (by omega)) | replace p9 := z_95 p9 | replace p9 := z_95
  first | replace s0 := eArr.fr s0 (fr_95 _ (by omega)) | replace s0 := Eq.trans (fr_95 _ (by omega)) s0 | replace s0 := eBo.fr s0 (fr_95 _ (by omega)) | replace s0 := z_95 s0 | replace s0 := z_95
  first | replace s1 := eArr.fr s1 (fr_95 _ (by omega)) | replace s1 := Eq.trans (fr_95 _ (by omega)) s1 | replace s1 := eBo.fr s1 (fr_95 _ (by omega)) | replace s1 := z_95 s1 | replace s1 := z_95
  first | replace s2 := eArr.fr s2 (fr_95 _ (by omega)) | replace s2 := Eq.trans (fr_95 _ (by omega)) s2 | replace s2 := eBo.fr s2 (fr_95 _ (by omega)) | replace s2 := z_95 s2 | replace s2 := z_95
  first | replace s3 := eArr.fr s3 (fr_95 _ (by omega)) | replace s3 := Eq.trans (fr_95 _ (by omega)) s3 | replace s3 := eBo.fr s3 (fr_95 _ (by omega)) | replace s3 := z_95 s3 | replace s3 := z_95
  first | replace s4 := eArr.fr s4 (fr_95 _ (by omega)) | replace s4 := Eq.trans (fr_95 _ (by omega)) s4 | replace s4 := eBo.fr s4 (fr_95 _ (by omega)) | replace s4 := z_95 s4 | replace s4 := z_95
  first | replace s5 := eArr.fr s5 (fr_95 _ (by omega)) | replace s5 := Eq.trans (fr_95 _ (by omega)) s5 | replace s5 := eBo.fr s5 (fr_95 _ (by omega)) | replace s5 := z_95 s5 | replace s5 := z_95
  first | replace s6 := eArr.fr s6 (fr_95 _ (by omega)) | replace s6 := Eq.trans (fr_95 _ (by omega)) s6 | replace s6 := eBo.fr s6 (fr_95 _ (by omega)) | replace s6 := z_95 s6 | replace s6 := z_95
  first | replace s7 := eArr.fr s7 (fr_95 _ (by omega)) | replace s7 := Eq.trans (fr_95 _ (by omega)) s7 | replace s7 := eBo.fr s7 (fr_95 _ (by omega)) | replace s7 := z_95 s7 | replace s7 := z_95
  first | replace s8 := eArr.fr s8 (fr_95 _ (by omega)) | replace s8 := Eq.trans (fr_95 _ (by omega)) s8 | replace s8 := eBo.fr s8 (fr_95 _ (by omega)) | replace s8 := z_95 s8 | replace s8 := z_95
  first | replace s9 := eArr.fr s9 (fr_95 _ (by omega)) | replace s9 := Eq.trans (fr_95 _ (by omega)) s9 | replace s9 := eBo.fr s9 (fr_95 _ (by omega)) | replace s9 := z_95 s9 | replace s9 := z_95
  replace FR := eFr.trans FR (eFr.one fr_95 (by omega) (by omega))
  refine ev_aload_n dX2_copyFrom_98 rfl rfl ?_
  refine ev_getfield dX2_copyFrom_99 fl_X2_34 (by first | assumption | omega) rfl ?_
  refine ev_iconst (v := nI 0) dX2_copyFrom_102 rfl ?_
  refine ev_aload_n dX2_copyFrom_103 rfl rfl ?_
  refine ev_getfield dX2_copyFrom_104 fl_X2_34 (by first | assumption | omega) rfl ?_
  refine ev_iconst (v := nI 0) dX2_copyFrom_107 rfl ?_
  refine ev_bipush (v := nI 40) dX2_copyFrom_108 rfl ?_
  refine ev_copyA dX2_copyFrom_110 (by first | assumption | omega) (by first | assumption | omega) (fun _ => rfl) rfl (fun _ => rfl) wv_X2_41 (Nat.le_of_ble_eq_true rfl) (Nat.le_of_ble_eq_true rfl) (fun g_110 fr_110 w_110 => ?_)
  first | replace p0 := eArr.fr p0 (fr_110 _ (by omega)) | replace p0 := Eq.trans (fr_110 _ (by omega)) p0 | replace p0 := eBo.fr p0 (fr_110 _ (by omega)) | replace p0 := z_110 p0 | replace p0 := z_110
  first | replace p1 := eArr.fr p1 (fr_110 _ (by omega)) | replace p1 := Eq.trans (fr_110 _ (by omega)) p1 | replace p1 := eBo.fr p1 (fr_110 _ (by omega)) | replace p1 := z_110 p1 | replace p1 := z_110
  first | replace p2 := eArr.fr p2 (fr_110 _ (by omega)) | replace p2 := Eq.trans (fr_110 _ (by omega)) p2 | replace p2 := eBo.fr p2 (fr_110 _ (by omega)) | replace p2 := z_110 p2 | replace p2 := z_110
  first | replace p3 := eArr.fr p3 (fr_110 _ (by omega)) | replace p3 := Eq.trans (fr_110 _ (by omega)) p3 | replace p3 := eBo.fr p3 (fr_110 _ (by omega)) | replace p3 := z_110 p3 | replace p3 := z_110
  first | replace p4 := eArr.fr p4 (fr_110 _ (by omega)) | replace p4 := Eq.trans (fr_110 _ (by omega)) p4 | replace p4 := eBo.fr p4 (fr_110 _ (by omega)) | replace p4 := z_110 p4 | replace p4 := z_110
  first | replace p5 := eArr.fr p5 (fr_110 _ (by omega)) | replace p5 := Eq.trans (fr_110 _ (by omega)) p5 | replace p5 := eBo.fr p5 (fr_110 _ (by omega)) | replace p5 := z_110 p5 | replace p5 := z_110
  first | replace p6 := eArr.fr p6 (fr_110 _ (by omega)) | replace p6 := Eq.trans (fr_110 _ (by omega)) p6 | replace p6 := eBo.fr p6 (fr_110 _ (by omega)) | replace p6 := z_110 p6 | replace p6 := z_110
  replace p7 := w_110
  first | replace p8 := eArr.fr p8 (fr_110 _ (by omega)) | replace p8 := Eq.trans (fr_110 _ (by omega)) p8 | replace p8 := eBo.fr p8 (fr_110 _ (by omega)) | replace p8 := z_110 p8 | replace p8 := z_110
  first | replace p9 := eArr.fr p9 (fr_110 _ (by omega)) | replace p9 := Eq.trans (fr_110 _ (by omega)) p9 | replace p9 := eBo.fr p9 (fr_110 _ (by omega)) | replace p9 := z_110 p9 | replace p9 := z_110
  first | replace s0 := eArr.fr s0 (fr_110 _ (by omega)) | replace s0 := Eq.trans (fr_110 _ (by omega)) s0 | replace s0 := eBo.fr s0 (fr_110 _ (by omega)) | replace s0 := z_110 s0 | replace s0 := z_110
  first | replace s1 := eArr.fr s1 (fr_110 _ (by omega)) | replace s1 := Eq.trans (fr_110 _ (by omega)) s1 | replace s1 := eBo.fr s1 (fr_110 _ (by omega)) | replace s1 := z_110 s1 | replace s1 := z_110
  first | replace s2 := eArr.fr s2 (fr_110 _ (by omega)) | replace s2 := Eq.trans (fr_110 _ (by omega)) s2 | replace s2 := eBo.fr s2 (fr_110 _ (by omega)) | replace s2 := z_110 s2 | replace s2 := z_110
  first | replace s3 := eArr.fr s3 (fr_110 _ (by omega)) | replace s3 := Eq.trans (fr_110 _ (by omega)) s3 | replace s3 := eBo.fr s3 (fr_110 _ (by omega)) | replace s3 := z_110 s3 | replace s3 := z_110
  first | replace s4 := eArr.fr s4 (fr_110 _ (by omega)) | replace s4 := Eq.trans (fr_110 _ (by omega)) s4 | replace s4 := eBo.fr s4 (fr_110 _ (by omega)) | replace s4 := z_110 s4 | replace s4 := z_110
  first | replace s5 := eArr.fr s5 (fr_110 _ (by omega)) | replace s5 := Eq.trans (fr_110 _ (by omega)) s5 | replace s5 := eBo.fr s5 (fr_110 _ (by omega)) | replace s5 := z_110 s5 | replace s5 := z_110
  first | replace s6 := eArr.fr s6 (fr_110 _ (by omega)) | replace s6 := Eq.trans (fr_110 _ (by omega)) s6 | replace s6 := eBo.fr s6 (fr_110 _ (by omega)) | replace s6 := z_110 s6 | replace s6 := z_110
  first | replace s7 := eArr.fr s7 (fr_110 _ (by omega)) | replace s7 := Eq.trans (fr_110 _ (by omega)) s7 | replace s7 := eBo.fr s7 (fr_110 _ (by omega)) | replace s7 := z_110 s7 | replace s7 := z_110
  first | replace s8 := eArr.fr s8 (fr_110 _ (by omega)) | replace s8 := Eq.trans (fr_110 _ (by omega)) s8 | replace s8 := eBo.fr s8 (fr_110 _ (by omega)) | replace s8 := z_110 s8 | replace s8 := z_110
  first | replace s9 := eArr.fr s9 (fr_110 _ (by omega)) | replace s9 := Eq.trans (fr_110 _ (by omega)) s9 | replace s9 := eBo.fr s9 (fr_110 _ (by omega)) | replace s9 := z_110 s9 | replace s9 := z_110
  replace FR := eFr.trans FR (eFr.one fr_110 (by omega) (by omega))
  refine ev_aload_n dX2_copyFrom_113 rfl rfl ?_
  refine ev_getfield dX2_copyFrom_114 fl_X2_37 (by first | assumption | omega) rfl ?_
  refine ev_iconst (v := nI 0) dX2_copyFrom_117 rfl ?_
  refine ev_aload_n dX2_copyFrom_118 rfl rfl ?_
  refine ev_getfield dX2_copyFrom_119 fl_X2_37 (by first | assumption | omega) rfl ?_
  refine ev_iconst (v := nI 0) dX2_copyFrom_122 rfl ?_
  refine ev_bipush (v := nI 40) dX2_copyFrom_123 rfl ?_
  refine ev_copyB dX2_copyFrom_125 (by first | assumption | omega) (by first | assumption | omega) (by assumption) wv_X2_41 (Nat.le_of_ble_eq_true rfl) (Nat.le_of_ble_eq_true rfl) (fun g_125 fr_125 w_125 z_125 => ?_)
  first | replace p0 := eArr.fr p0 (fr_125 _ (by omega)) | replace p0 := Eq.trans (fr_125 _ (by omega)) p0 | replace p0 := eBo.fr p0 (fr_125 _ (by omega)) | replace p0 := z_125 p0 | replace p0 := z_125
  first | replace p1 := eArr.fr p1 (fr_125 _ (by omega)) | replace p1 := Eq.trans (fr_125 _ (by omega)) p1 | replace p1 := eBo.fr p1 (fr_125 _ (by omega)) | replace p1 := z_125 p1 | replace p1 := z_125
  first | replace p2 := eArr.fr p2 (fr_125 _ (by omega)) | replace p2 := Eq.trans (fr_125 _ (by omega)) p2 | replace p2 := eBo.fr p2 (fr_125 _ (by omega)) | replace p2 := z_125 p2 | replace p2 := z_125
  first | replace p3 := eArr.fr p3 (fr_125 _ (by omega)) | replace p3 := Eq.trans (fr_125 _ (by omega)) p3 | replace p3 := eBo.fr p3 (fr_125 _ (by omega)) | replace p3 := z_125 p3 | replace p3 := z_125
  first | replace p4 := eArr.fr p4 (fr_125 _ (by omega)) | replace p4 := Eq.trans (fr_125 _ (by omega)) p4 | replace p4 := eBo.fr p4 (fr_125 _ (by omega)) | replace p4 := z_125 p4 | replace p4 := z_125
  first | replace p5 := eArr.fr p5 (fr_125 _ (by omega)) | replace p5 := Eq.trans (fr_125 _ (by omega)) p5 | replace p5 := eBo.fr p5 (fr_125 _ (by omega)) | replace p5 := z_125 p5 | replace p5 := z_125
  first | replace p6 := eArr.fr p6 (fr_125 _ (by omega)) | replace p6 := Eq.trans (fr_125 _ (by omega)) p6 | replace p6 := eBo.fr p6 (fr_125 _ (by omega)) | replace p6 := z_125 p6 | replace p6 := z_125
  first | replace p7 := eArr.fr p7 (fr_125 _ (by omega)) | replace p7 := Eq.trans (fr_125 _ (by omega)) p7 | replace p7 := eBo.fr p7 (fr_125 _ (by omega)) | replace p7 := z_125 p7 | replace p7 := z_125
  replace p8 := w_125
  first | replace p9 := eArr.fr p9 (fr_125 _ (by omega)) | replace p9 := Eq.trans (fr_125 _ (by omega)) p9 | replace p9 := eBo.fr p9 (fr_125 _ (by omega)) | replace p9 := z_125 p9 | replace p9 := z_125
  first | replace s0 := eArr.fr s0 (fr_125 _ (by omega)) | replace s0 := Eq.trans (fr_125 _ (by omega)) s0 | replace s0 := eBo.fr s0 (fr_125 _ (by omega)) | replace s0 := z_125 s0 | replace s0 := z_125
  first | replace s1 := eArr.fr s1 (fr_125 _ (by omega)) | replace s1 := Eq.trans (fr_125 _ (by omega)) s1 | replace s1 := eBo.fr s1 (fr_125 _ (by omega)) | replace s1 := z_125 s1 | replace s1 := z_125
  first | replace s2 := eArr.fr s2 (fr_125 _ (by omega)) | replace s2 := Eq.trans (fr_125 _ (by omega)) s2 | replace s2 := eBo.fr s2 (fr_125 _ (by omega)) | replace s2 := z_125 s2 | replace s2 := z_125
  first | replace s3 := eArr.fr s3 (fr_125 _ (by omega)) | replace s3 := Eq.trans (fr_125 _ (by omega)) s3 | replace s3 := eBo.fr s3 (fr_125 _ (by omega)) | replace s3 := z_125 s3 | replace s3 := z_125
  first | replace s4 := eArr.fr s4 (fr_125 _ (by omega)) | replace s4 := Eq.trans (fr_125 _ (by omega)) s4 | replace s4 := eBo.fr s4 (fr_125 _ (by omega)) | replace s4 := z_125 s4 | replace s4 := z_125
  first | replace s5 := eArr.fr s5 (fr_125 _ (by omega)) | replace s5 := Eq.trans (fr_125 _ (by omega)) s5 | replace s5 := eBo.fr s5 (fr_125 _ (by omega)) | replace s5 := z_125 s5 | replace s5 := z_125
  first | replace s6 := eArr.fr s6 (fr_125 _ (by omega)) | replace s6 := Eq.trans (fr_125 _ (by omega)) s6 | replace s6 := eBo.fr s6 (fr_125 _ (by omega)) | replace s6 := z_125 s6 | replace s6 := z_125
  first | replace s7 := eArr.fr s7 (fr_125 _ (by omega)) | replace s7 := Eq.trans (fr_125 _ (by omega)) s7 | replace s7 := eBo.fr s7 (fr_125 _ (by omega)) | replace s7 := z_125 s7 | replace s7 := z_125
  first | replace s8 := eArr.fr s8 (fr_125 _ (by omega)) | replace s8 := Eq.trans (fr_125 _ (by omega)) s8 | replace s8 := eBo.fr s8 (fr_125 _ (by omega)) | replace s8 := z_125 s8 | replace s8 := z_125
  first | replace s9 := eArr.fr s9 (fr_125 _ (by omega)) | replace s9 := Eq.trans (fr_125 _ (by omega)) s9 | replace s9 := eBo.fr s9 (fr_125 _ (by omega)) | replace s9 := z_125 s9 | replace s9 := z_125
  replace FR := eFr.trans FR (eFr.one fr_125 (by omega) (by omega))
  exact ev_vret dX2_copyFrom_128 rfl rfl (by exact ⟨⟨p0, p1, p2, p3, p4, p5, p6, p7, p8, p9⟩, FR⟩) (fun _ e => Option.some.inj e) (Nat.le_of_ble_eq_true rfl) (Nat.le_of_ble_eq_true rfl)
set_option maxHeartbeats 4000000 in
set_option maxRecDepth 20000 in
theorem c_X2_add {h : eH} {n q : Nat} {σ : St} (hN : eNm h q σ) (hB : eB σ) (hlt : σ 0 1 < 40) {a p m c y : Nat} : kX2_add [.ref q, .int (nI a), .int (nI p), .int (nI m), .int (nI c), .int (nI y)] h n (.inl none, (fun g => eNm g q (sAddN σ a p m c y) ∧ eFr h g q (q + 9)), some n) 0 0 := by
  refine eM.of RX2 "add" [(0, .ref q), (1, .int (nI a)), (2, .int (nI p)), (3, .int (nI m)), (4, .int (nI c)), (5, .int (nI y))] pn_X2 rfl rfl (Nat.le_of_ble_eq_true rfl) rfl ?_
  obtain ⟨p0, p1, p2, p3, p4, p5, p6, p7, p8, p9⟩ := id hN
  have FR : eFr h h q (q + 9) := eFr.rf
  refine ev_aload_n dX2_add_0 rfl rfl ?_
  refine ev_callVi dX2_add_1 (c_X2_isFull (by first | assumption | omega) (by first | assumption | omega)) rfl lk_X2_47 (by first | assumption | omega) ⟨Nat.le_of_ble_eq_true rfl, Nat.le_of_ble_eq_true rfl⟩ rfl (Nat.le_of_ble_eq_true rfl) ⟨Nat.le_of_ble_eq_true rfl, Nat.le_of_ble_eq_true rfl⟩ (eRo ?_)
  first | ((with_reducible show eV _ _ _ (Value.int (bI _) :: _) _ _ _ _); refine ev_if_eqB (tgt := 8) dX2_add_4 (by decide) (fun c_4 => ?_) (fun c_4 => ?_)) | ((with_reducible show eV _ _ _ (Value.int (nI _) :: _) _ _ _ _); refine ev_if_eqN (tgt := 8) dX2_add_4 (by decide) (by first | exact hB _ _ | omega) (fun c_4 => ?_) (fun c_4 => ?_)) | (refine ev_if_eqZ (tgt := 8) dX2_add_4 (by decide) (fun c_4 => ?_) (fun c_4 => ?_))
  · refine ev_aload_n dX2_add_8 rfl rfl ?_
    refine ev_getfield dX2_add_9 fl_X2_15 (by first | assumption | omega) rfl ?_
    refine ev_aload_n dX2_add_12 rfl rfl ?_
    refine ev_getfield dX2_add_13 fl_X2_9 (by first | assumption | omega) rfl ?_
    refine ev_iload_n dX2_add_16 rfl rfl ?_
    refine ev_iastoreA dX2_add_17 (by first | assumption | omega) (by first | assumption | omega) (fun g_17 fr_17 w_17 => ?_)
    first | replace p0 := eArr.fr p0 (fr_17 _ (by omega)) | replace p0 := Eq.trans (fr_17 _ (by omega)) p0 | replace p0 := eBo.fr p0 (fr_17 _ (by omega)) | replace p0 := z_17 p0 | replace p0 := z_17
    replace p1 := w_17 _ (Or.inr ⟨rfl, rfl⟩)
    first | replace p2 := eArr.fr p2 (fr_17 _ (by omega)) | replace p2 := Eq.trans (fr_17 _ (by omega)) p2 | replace p2 := eBo.fr p2 (fr_17 _ (by omega)) | replace p2 := z_17 p2 | replace p2 := z_17
    first | replace p3 := eArr.fr p3 (fr_17 _ (by omega)) | replace p3 := Eq.trans (fr_17 _ (by omega)) p3 | replace p3 := eBo.fr p3 (fr_17 _ (by omega)) | replace p3 := z_17 p3 | replace p3 := z_17
    first | replace p4 := eArr.fr p4 (fr_17 _ (by omega)) | replace p4 := Eq.trans (fr_17 _ (by omega)) p4 | replace p4 := eBo.fr p4 (fr_17 _ (by omega)) | replace p4 := z_17 p4 | replace p4 := z_17
    first | replace p5 := eArr.fr p5 (fr_17 _ (by omega)) | replace p5 := Eq.trans (fr_17 _ (by omega)) p5 | replace p5 := eBo.fr p5 (fr_17 _ (by omega)) | replace p5 := z_17 p5 | replace p5 := z_17
    first | replace p6 := eArr.fr p6 (fr_17 _ (by omega)) | replace p6 := Eq.trans (fr_17 _ (by omega)) p6 | replace p6 := eBo.fr p6 (fr_17 _ (by omega)) | replace p6 := z_17 p6 | replace p6 := z_17
    first | replace p7 := eArr.fr p7 (fr_17 _ (by omega)) | replace p7 := Eq.trans (fr_17 _ (by omega)) p7 | replace p7 := eBo.fr p7 (fr_17 _ (by omega)) | replace p7 := z_17 p7 | replace p7 := z_17
    first | replace p8 := eArr.fr p8 (fr_17 _ (by omega)) | replace p8 := Eq.trans (fr_17 _ (by omega)) p8 | replace p8 := eBo.fr p8 (fr_17 _ (by omega)) | replace p8 := z_17 p8 | replace p8 := z_17
    first | replace p9 := eArr.fr p9 (fr_17 _ (by omega)) | replace p9 := Eq.trans (fr_17 _ (by omega)) p9 | replace p9 := eBo.fr p9 (fr_17 _ (by omega)) | replace p9 := z_17 p9 | replace p9 := z_17
    replace FR := eFr.trans FR (eFr.one fr_17 (by omega) (by omega))
    refine ev_aload_n dX2_add_18 rfl rfl ?_
    refine ev_getfield dX2_add_19 fl_X2_19 (by first | assumption | omega) rfl ?_
    refine ev_aload_n dX2_add_22 rfl rfl ?_
    refine ev_getfield dX2_add_23 fl_X2_9 (by first | assumption | omega) rfl ?_
    refine ev_iload dX2_add_26 rfl ?_
    refine ev_iastoreA dX2_add_28 (by first | assumption | omega) (by first | assumption | omega) (fun g_28 fr_28 w_28 => ?_)
    first | replace p0 := eArr.fr p0 (fr_28 _ (by omega)) | replace p0 := Eq.trans (fr_28 _ (by omega)) p0 | replace p0 := eBo.fr p0 (fr_28 _ (by omega)) | replace p0 := z_28 p0 | replace p0 := z_28
    first | replace p1 := eArr.fr p1 (fr_28 _ (by omega)) | replace p1 := Eq.trans (fr_28 _ (by omega)) p1 | replace p1 := eBo.fr p1 (fr_28 _ (by omega)) | replace p1 := z_28 p1 | replace p1 := z_28
    replace p2 := w_28 _ (Or.inr ⟨rfl, rfl⟩)
    first | replace p3 := eArr.fr p3 (fr_28 _ (by omega)) | replace p3 := Eq.trans (fr_28 _ (by omega)) p3 | replace p3 := eBo.fr p3 (fr_28 _ (by omega)) | replace p3 := z_28 p3 | replace p3 := z_28
    first | replace p4 := eArr.fr p4 (fr_28 _ (by omega)) | replace p4 := Eq.trans (fr_28 _ (by omega)) p4 | replace p4 := eBo.fr p4 (fr_28 _ (by omega)) | replace p4 := z_28 p4 | replace p4 := z_28
    first | replace p5 := eArr.fr p5 (fr_28 _ (by omega)) | replace p5 := Eq.trans (fr_28 _ (by omega)) p5 | replace p5 := eBo.fr p5 (fr_28 _ (by omega)) | replace p5 := z_28 p5 | replace p5 := z_28
    first | replace p6 := eArr.fr p6 (fr_28 _ (by omega)) | replace p6 := Eq.trans (fr_28 _ (by omega)) p6 | replace p6 := eBo.fr p6 (fr_28 _ (by omega)) | replace p6 := z_28 p6 | replace p6 := z_28
    first | replace p7 := eArr.fr p7 (fr_28 _ (by omega)) | replace p7 := Eq.trans (fr_28 _ (by omega)) p7 | replace p7 := eBo.fr p7 (fr_28 _ (by omega)) | replace p7 := z_28 p7 | replace p7 := z_28
    first | replace p8 := eArr.fr p8 (fr_28 _ (by omega)) | replace p8 := Eq.trans (fr_28 _ (by omega)) p8 | replace p8 := eBo.fr p8 (fr_28 _ (by omega)) | replace p8 := z_28 p8 | replace p8 := z_28
    first | replace p9 := eArr.fr p9 (fr_28 _ (by omega)) | replace p9 := Eq.trans (fr_28 _ (by omega)) p9 | replace p9 := eBo.fr p9 (fr_28 _ (by omega)) | replace p9 := z_28 p9 | replace p9 := z_28
    replace FR := eFr.trans FR (eFr.one fr_28 (by omega) (by omega))
    refine ev_aload_n dX2_add_29 rfl rfl ?_
    refine ev_getfield dX2_add_30 fl_X2_22 (by first | assumption | omega) rfl ?_
    refine ev_aload_n dX2_add_33 rfl rfl ?_
    refine ev_getfield dX2_add_34 fl_X2_9 (by first | assumption | omega) rfl ?_
    refine ev_iload_n dX2_add_37 rfl rfl ?_
    refine ev_iastoreA dX2_add_38 (by first | assumption | omega) (by first | assumption | omega) (fun g_38 fr_38 w_38 => ?_)
    first | replace p0 := eArr.fr p0 (fr_38 _ (by omega)) | replace p0 := Eq.trans (fr_38 _ (by omega)) p0 | replace p0 := eBo.fr p0 (fr_38 _ (by omega)) | replace p0 := z_38 p0 | replace p0 := z_38
    first | replace p1 := eArr.fr p1 (fr_38 _ (by omega)) | replace p1 := Eq.trans (fr_38 _ (by omega)) p1 | replace p1 := eBo.fr p1 (fr_38 _ (by omega)) | replace p1 := z_38 p1 | replace p1 := z_38
    first | replace p2 := eArr.fr p2 (fr_38 _ (by omega)) | replace p2 := Eq.trans (fr_38 _ (by omega)) p2 | replace p2 := eBo.fr p2 (fr_38 _ (by omega)) | replace p2 := z_38 p2 | replace p2 := z_38
    replace p3 := w_38 _ (Or.inr ⟨rfl, rfl⟩)
    first | replace p4 := eArr.fr p4 (fr_38 _ (by omega)) | replace p4 := Eq.trans (fr_38 _ (by omega)) p4 | replace p4 := eBo.fr p4 (fr_38 _ (by omega)) | replace p4 := z_38 p4 | replace p4 := z_38
    first | replace p5 := eArr.fr p5 (fr_38 _ (by omega)) | replace p5 := Eq.trans (fr_38 _ (by omega)) p5 | replace p5 := eBo.fr p5 (fr_38 _ (by omega)) | replace p5 := z_38 p5 | replace p5 := z_38
    first | replace p6 := eArr.fr p6 (fr_38 _ (by omega)) | replace p6 := Eq.trans (fr_38 _ (by omega)) p6 | replace p6 := eBo.fr p6 (fr_38 _ (by omega)) | replace p6 := z_38 p6 | replace p6 := z_38
    first | replace p7 := eArr.fr p7 (fr_38 _ (by omega)) | replace p7 := Eq.trans (fr_38 _ (by omega)) p7 | replace p7 := eBo.fr p7 (fr_38 _ (by omega)) | replace p7 := z_38 p7 | replace p7 := z_38
    first | replace p8 := eArr.fr p8 (fr_38 _ (by omega)) | replace p8 := Eq.trans (fr_38 _ (by omega)) p8 | replace p8 := eBo.fr p8 (fr_38 _ (by omega)) | replace p8 := z_38 p8 | replace p8 := z_38
    first | replace p9 := eArr.fr p9 (fr_38 _ (by omega)) | replace p9 := Eq.trans (fr_38 _ (by omega)) p9 | replace p9 := eBo.fr p9 (fr_38 _ (by omega)) | replace p9 := z_38 p9 | replace p9 := z_38
    replace FR := eFr.trans FR (eFr.one fr_38 (by omega) (by omega))
    refine ev_aload_n dX2_add_39 rfl rfl ?_
    refine ev_getfield dX2_add_40 fl_X2_25 (by first | assumption | omega) rfl ?_
    refine ev_aload_n dX2_add_43 rfl rfl ?_
    refine ev_getfield dX2_add_44 fl_X2_9 (by first | assumption | omega) rfl ?_
    refine ev_iload_n dX2_add_47 rfl rfl ?_
    refine ev_iastoreA dX2_add_48 (by first | assumption | omega) (by first | assumption | omega) (fun g_48 fr_48 w_48 => ?_)
    first | replace p0 := eArr.fr p0 (fr_48 _ (by omega)) | replace p0 := Eq.trans (fr_48 _ (by omega)) p0 | replace p0 := eBo.fr p0 (fr_48 _ (by omega)) | replace p0 := z_48 p0 | replace p0 := z_48
    first | replace p1 := eArr.fr p1 (fr_48 _ (by omega)) | replace p1 := Eq.trans (fr_48 _ (by omega)) p1 | replace p1 := eBo.fr p1 (fr_48 _ (by omega)) | replace p1 := z_48 p1 | replace p1 := z_48
    first | replace p2 := eArr.fr p2 (fr_48 _ (by omega)) | replace p2 := Eq.trans (fr_48 _ (by omega)) p2 | replace p2 := eBo.fr p2 (fr_48 _ (by omega)) | replace p2 := z_48 p2 | replace p2 := z_48
    first | replace p3 := eArr.fr p3 (fr_48 _ (by omega)) | replace p3 := Eq.trans (fr_48 _ (by omega)) p3 | replace p3 := eBo.fr p3 (fr_48 _ (by omega)) | replace p3 := z_48 p3 | replace p3 := z_48
    replace p4 := w_48 _ (Or.inr ⟨rfl, rfl⟩)
    first | replace p5 := eArr.fr p5 (fr_48 _ (by omega)) | replace p5 := Eq.trans (fr_48 _ (by omega)) p5 | replace p5 := eBo.fr p5 (fr_48 _ (by omega)) | replace p5 := z_48 p5 | replace p5 := z_48
    first | replace p6 := eArr.fr p6 (fr_48 _ (by omega)) | replace p6 := Eq.trans (fr_48 _ (by omega)) p6 | replace p6 := eBo.fr p6 (fr_48 _ (by omega)) | replace p6 := z_48 p6 | replace p6 := z_48
    first | replace p7 := eArr.fr p7 (fr_48 _ (by omega)) | replace p7 := Eq.trans (fr_48 _ (by omega)) p7 | replace p7 := eBo.fr p7 (fr_48 _ (by omega)) | replace p7 := z_48 p7 | replace p7 := z_48
    first | replace p8 := eArr.fr p8 (fr_48 _ (by omega)) | replace p8 := Eq.trans (fr_48 _ (by omega)) p8 | replace p8 := eBo.fr p8 (fr_48 _ (by omega)) | replace p8 := z_48 p8 | replace p8 := z_48
    first | replace p9 := eArr.fr p9 (fr_48 _ (by omega)) | replace p9 := Eq.trans (fr_48 _ (by omega)) p9 | replace p9 := eBo.fr p9 (fr_48 _ (by omega)) | replace p9 := z_48 p9 | replace p9 := z_48
    replace FR := eFr.trans FR (eFr.one fr_48 (by omega) (by omega))
    refine ev_aload_n dX2_add_49 rfl rfl ?_
    refine ev_getfield dX2_add_50 fl_X2_28 (by first | assumption | omega) rfl ?_
    refine ev_aload_n dX2_add_53 rfl rfl ?_
    refine ev_getfield dX2_add_54 fl_X2_9 (by first | assumption | omega) rfl ?_
    refine ev_iconst (v := nI 0) dX2_add_57 rfl ?_
    refine ev_iastoreA dX2_add_58 (by first | assumption | omega) (by first | assumption | omega) (fun g_58 fr_58 w_58 => ?_)
    first | replace p0 := eArr.fr p0 (fr_58 _ (by omega)) | replace p0 := Eq.trans (fr_58 _ (by omega)) p0 | replace p0 := eBo.fr p0 (fr_58 _ (by omega)) | replace p0 := z_58 p0 | replace p0 := z_58
    first | replace p1 := eArr.fr p1 (fr_58 _ (by omega)) | replace p1 := Eq.trans (fr_58 _ (by omega)) p1 | replace p1 := eBo.fr p1 (fr_58 _ (by omega)) | replace p1 := z_58 p1 | replace p1 := z_58
    first | replace p2 := eArr.fr p2 (fr_58 _ (by omega)) | replace p2 := Eq.trans (fr_58 _ (by omega)) p2 | replace p2 := eBo.fr p2 (fr_58 _ (by omega)) | replace p2 := z_58 p2 | replace p2 := z_58
    first | replace p3 := eArr.fr p3 (fr_58 _ (by omega)) | replace p3 := Eq.trans (fr_58 _ (by omega)) p3 | replace p3 := eBo.fr p3 (fr_58 _ (by omega)) | replace p3 := z_58 p3 | replace p3 := z_58
    first | replace p4 := eArr.fr p4 (fr_58 _ (by omega)) | replace p4 := Eq.trans (fr_58 _ (by omega)) p4 | replace p4 := eBo.fr p4 (fr_58 _ (by omega)) | replace p4 := z_58 p4 | replace p4 := z_58
    replace p5 := w_58 _ (Or.inr ⟨rfl, rfl⟩)
    first | replace p6 := eArr.fr p6 (fr_58 _ (by omega)) | replace p6 := Eq.trans (fr_58 _ (by omega)) p6 | replace p6 := eBo.fr p6 (fr_58 _ (by omega)) | replace p6 := z_58 p6 | replace p6 := z_58
    first | replace p7 := eArr.fr p7 (fr_58 _ (by omega)) | replace p7 := Eq.trans (fr_58 _ (by omega)) p7 | replace p7 := eBo.fr p7 (fr_58 _ (by omega)) | replace p7 := z_58 p7 | replace p7 := z_58
    first | replace p8 := eArr.fr p8 (fr_58 _ (by omega)) | replace p8 := Eq.trans (fr_58 _ (by omega)) p8 | replace p8 := eBo.fr p8 (fr_58 _ (by omega)) | replace p8 := z_58 p8 | replace p8 := z_58
    first | replace p9 := eArr.fr p9 (fr_58 _ (by omega)) | replace p9 := Eq.trans (fr_58 _ (by omega)) p9 | replace p9 := eBo.fr p9 (fr_58 _ (by omega)) | replace p9 := z_58 p9 | replace p9 := z_58
    replace FR := eFr.trans FR (eFr.one fr_58 (by omega) (by omega))
    refine ev_aload_n dX2_add_59 rfl rfl ?_
    refine ev_getfield dX2_add_60 fl_X2_31 (by first | assumption | omega) rfl ?_
    refine ev_aload_n dX2_add_63 rfl rfl ?_
    refine ev_getfield dX2_add_64 fl_X2_9 (by first | assumption | omega) rfl ?_
    refine ev_iload dX2_add_67 rfl ?_
    refine ev_iastoreA dX2_add_69 (by first | assumption | omega) (by first | assumption | omega) (fun g_69 fr_69 w_69 => ?_)
    first | replace p0 := eArr.fr p0 (fr_69 _ (by omega)) | replace p0 := Eq.trans (fr_69 _ (by omega)) p0 | replace p0 := eBo.fr p0 (fr_69 _ (by omega)) | replace p0 := z_69 p0 | replace p0 := z_69
    first | replace p1 := eArr.fr p1 (fr_69 _ (by omega)) | replace p1 := Eq.trans (fr_69 _ (by omega)) p1 | replace p1 := eBo.fr p1 (fr_69 _ (by omega)) | replace p1 := z_69 p1 | replace p1 := z_69
    first | replace p2 := eArr.fr p2 (fr_69 _ (by omega)) | replace p2 := Eq.trans (fr_69 _ (by omega)) p2 | replace p2 := eBo.fr p2 (fr_69 _ (by omega)) | replace p2 := z_69 p2 | replace p2 := z_69
    first | replace p3 := eArr.fr p3 (fr_69 _ (by omega)) | replace p3 := Eq.trans (fr_69 _ (by omega)) p3 | replace p3 := eBo.fr p3 (fr_69 _ (by omega)) | replace p3 := z_69 p3 | replace p3 := z_69
    first | replace p4 := eArr.fr p4 (fr_69 _ (by omega)) | replace p4 := Eq.trans (fr_69 _ (by omega)) p4 | replace p4 := eBo.fr p4 (fr_69 _ (by omega)) | replace p4 := z_69 p4 | replace p4 := z_69
    first | replace p5 := eArr.fr p5 (fr_69 _ (by omega)) | replace p5 := Eq.trans (fr_69 _ (by omega)) p5 | replace p5 := eBo.fr p5 (fr_69 _ (by omega)) | replace p5 := z_69 p5 | replace p5 := z_69
    replace p6 := w_69 _ (Or.inr ⟨rfl, rfl⟩)
    first | replace p7 := eArr.fr p7 (fr_69 _ (by omega)) | replace p7 := Eq.trans (fr_69 _ (by omega)) p7 | replace p7 := eBo.fr p7 (fr_69 _ (by omega)) | replace p7 := z_69 p7 | replace p7 := z_69
    first | replace p8 := eArr.fr p8 (fr_69 _ (by omega)) | replace p8 := Eq.trans (fr_69 _ (by omega)) p8 | replace p8 := eBo.fr p8 (fr_69 _ (by omega)) | replace p8 := z_69 p8 | replace p8 := z_69
    first | replace p9 := eArr.fr p9 (fr_69 _ (by omega)) | replace p9 := Eq.trans (fr_69 _ (by omega)) p9 | replace p9 := eBo.fr p9 (fr_69 _ (by omega)) | replace p9 := z_69 p9 | replace p9 := z_69
    replace FR := eFr.trans FR (eFr.one fr_69 (by omega) (by omega))
    refine ev_aload_n dX2_add_70 rfl rfl ?_
    refine ev_getfield dX2_add_71 fl_X2_34 (by first | assumption | omega) rfl ?_
    refine ev_aload_n dX2_add_74 rfl rfl ?_
    refine ev_getfield dX2_add_75 fl_X2_9 (by first | assumption | omega) rfl ?_
    refine ev_iconst (v := nI 0) dX2_add_78 rfl ?_
    refine ev_iastoreA dX2_add_79 (by first | assumption | omega) (by first | assumption | omega) (fun g_79 fr_79 w_79 => ?_)
    first | replace p0 := eArr.fr p0 (fr_79 _ (by omega)) | replace p0 := Eq.trans (fr_79 _ (by omega)) p0 | replace p0 := eBo.fr p0 (fr_79 _ (by omega)) | replace p0 := z_79 p0 | replace p0 := z_79
    first | replace p1 := eArr.fr p1 (fr_79 _ (by omega)) | replace p1 := Eq.trans (fr_79 _ (by omega)) p1 | replace p1 := eBo.fr p1 (fr_79 _ (by omega)) | replace p1 := z_79 p1 | replace p1 := z_79
    first | replace p2 := eArr.fr p2 (fr_79 _ (by omega)) | replace p2 := Eq.trans (fr_79 _ (by omega)) p2 | replace p2 := eBo.fr p2 (fr_79 _ (by omega)) | replace p2 := z_79 p2 | replace p2 := z_79
    first | replace p3 := eArr.fr p3 (fr_79 _ (by omega)) | replace p3 := Eq.trans (fr_79 _ (by omega)) p3 | replace p3 := eBo.fr p3 (fr_79 _ (by omega)) | replace p3 := z_79 p3 | replace p3 := z_79
    first | replace p4 := eArr.fr p4 (fr_79 _ (by omega)) | replace p4 := Eq.trans (fr_79 _ (by omega)) p4 | replace p4 := eBo.fr p4 (fr_79 _ (by omega)) | replace p4 := z_79 p4 | replace p4 := z_79
    first | replace p5 := eArr.fr p5 (fr_79 _ (by omega)) | replace p5 := Eq.trans (fr_79 _ (by omega)) p5 | replace p5 := eBo.fr p5 (fr_79 _ (by omega)) | replace p5 := z_79 p5 | replace p5 := z_79
    first | replace p6 := eArr.fr p6 (fr_79 _ (by omega)) | replace p6 := Eq.trans (fr_79 _ (by omega)) p6 | replace p6 := eBo.fr p6 (fr_79 _ (by omega)) | replace p6 := z_79 p6 | replace p6 := z_79
    replace p7 := w_79 _ (Or.inr ⟨rfl, rfl⟩)
    first | replace p8 := eArr.fr p8 (fr_79 _ (by omega)) | replace p8 := Eq.trans (fr_79 _ (by omega)) p8 | replace p8 := eBo.fr p8 (fr_79 _ (by omega)) | replace p8 := z_79 p8 | replace p8 := z_79
    first | replace p9 := eArr.fr p9 (fr_79 _ (by omega)) | replace p9 := Eq.trans (fr_79 _ (by omega)) p9 | replace p9 := eBo.fr p9 (fr_79 _ (by omega)) | replace p9 := z_79 p9 | replace p9 := z_79
    replace FR := eFr.trans FR (eFr.one fr_79 (by omega) (by omega))
    refine ev_aload_n dX2_add_80 rfl rfl ?_
    refine ev_getfield dX2_add_81 fl_X2_37 (by first | assumption | omega) rfl ?_
    refine ev_aload_n dX2_add_84 rfl rfl ?_
    refine ev_getfield dX2_add_85 fl_X2_9 (by first | assumption | omega) rfl ?_
    refine ev_iconst (v := nI 0) dX2_add_88 rfl ?_
    refine ev_bastoreA dX2_add_89 (by first | assumption | omega) (by first | assumption | omega) (by decide) (fun g_89 fr_89 w_89 z_89 => ?_)
    first | replace p0 := eArr.fr p0 (fr_89 _ (by omega)) | replace p0 := Eq.trans (fr_89 _ (by omega)) p0 | replace p0 := eBo.fr p0 (fr_89 _ (by omega)) | replace p0 := z_89 p0 | replace p0 := z_89
    first | replace p1 := eArr.fr p1 (fr_89 _ (by omega)) | replace p1 := Eq.trans (fr_89 _ (by omega)) p1 | replace p1 := eBo.fr p1 (fr_89 _ (by omega)) | replace p1 := z_89 p1 | replace p1 := z_89
    first | replace p2 := eArr.fr p2 (fr_89 _ (by omega)) | replace p2 := Eq.trans (fr_89 _ (by omega)) p2 | replace p2 := eBo.fr p2 (fr_89 _ (by omega)) | replace p2 := z_89 p2 | replace p2 := z_89
    first | replace p3 := eArr.fr p3 (fr_89 _ (by omega)) | replace p3 := Eq.trans (fr_89 _ (by omega)) p3 | replace p3 := eBo.fr p3 (fr_89 _ (by omega)) | replace p3 := z_89 p3 | replace p3 := z_89
    first | replace p4 := eArr.fr p4 (fr_89 _ (by omega)) | replace p4 := Eq.trans (fr_89 _ (by omega)) p4 | replace p4 := eBo.fr p4 (fr_89 _ (by omega)) | replace p4 := z_89 p4 | replace p4 := z_89
    first | replace p5 := eArr.fr p5 (fr_89 _ (by omega)) | replace p5 := Eq.trans (fr_89 _ (by omega)) p5 | replace p5 := eBo.fr p5 (fr_89 _ (by omega)) | replace p5 := z_89 p5 | replace p5 := z_89
    first | replace p6 := eArr.fr p6 (fr_89 _ (by omega)) | replace p6 := Eq.trans (fr_89 _ (by omega)) p6 | replace p6 := eBo.fr p6 (fr_89 _ (by omega)) | replace p6 := z_89 p6 | replace p6 := z_89
    first | replace p7 := eArr.fr p7 (fr_89 _ (by omega)) | replace p7 := Eq.trans (fr_89 _ (by omega)) p7 | replace p7 := eBo.fr p7 (fr_89 _ (by omega)) | replace p7 := z_89 p7 | replace p7 := z_89
    replace p8 := w_89 _ (Or.inr ⟨rfl, rfl⟩)
    first | replace p9 := eArr.fr p9 (fr_89 _ (by omega)) | replace p9 := Eq.trans (fr_89 _ (by omega)) p9 | replace p9 := eBo.fr p9 (fr_89 _ (by omega)) | replace p9 := z_89 p9 | replace p9 := z_89
    replace FR := eFr.trans FR (eFr.one fr_89 (by omega) (by omega))
    refine ev_aload_n dX2_add_90 rfl rfl ?_
    refine ev_dup dX2_add_91 rfl ?_
    refine ev_getfield dX2_add_92 fl_X2_9 (by first | assumption | omega) rfl ?_
    refine ev_iconst (v := nI 1) dX2_add_95 rfl ?_
    first | refine ev_iaddN dX2_add_96 ?_ | refine ev_iadd dX2_add_96 ?_
    refine ev_putH dX2_add_97 pl_X2_9 (by first | assumption | omega) (Nat.le_of_ble_eq_true rfl) rfl rfl (fun g_97 fr_97 w_97 => ?_)
    replace p0 := w_97
    first | replace p1 := eArr.fr p1 (fr_97 _ (by omega)) | replace p1 := Eq.trans (fr_97 _ (by omega)) p1 | replace p1 := eBo.fr p1 (fr_97 _ (by omega)) | replace p1 := z_97 p1 | replace p1 := z_97
    first | replace p2 := eArr.fr p2 (fr_97 _ (by omega)) | replace p2 := Eq.trans (fr_97 _ (by omega)) p2 | replace p2 := eBo.fr p2 (fr_97 _ (by omega)) | replace p2 := z_97 p2 | replace p2 := z_97
    first | replace p3 := eArr.fr p3 (fr_97 _ (by omega)) | replace p3 := Eq.trans (fr_97 _ (by omega)) p3 | replace p3 := eBo.fr p3 (fr_97 _ (by omega)) | replace p3 := z_97 p3 | replace p3 := z_97
    first | replace p4 := eArr.fr p4 (fr_97 _ (by omega)) | replace p4 := Eq.trans (fr_97 _ (by omega)) p4 | replace p4 := eBo.fr p4 (fr_97 _ (by omega)) | replace p4 := z_97 p4 | replace p4 := z_97
    first | replace p5 := eArr.fr p5 (fr_97 _ (by omega)) | replace p5 := Eq.trans (fr_97 _ (by omega)) p5 | replace p5 := eBo.fr p5 (fr_97 _ (by omega)) | replace p5 := z_97 p5 | replace p5 := z_97
    first | replace p6 := eArr.fr p6 (fr_97 _ (by omega)) | replace p6 := Eq.trans (fr_97 _ (by omega)) p6 | replace p6 := eBo.fr p6 (fr_97 _ (by omega)) | replace p6 := z_97 p6 | replace p6 := z_97
    first | replace p7 := eArr.fr p7 (fr_97 _ (by omega)) | replace p7 := Eq.trans (fr_97 _ (by omega)) p7 | replace p7 := eBo.fr p7 (fr_97 _ (by omega)) | replace p7 := z_97 p7 | replace p7 := z_97
    first | replace p8 := eArr.fr p8 (fr_97 _ (by omega)) | replace p8 := Eq.trans (fr_97 _ (by omega)) p8 | replace p8 := eBo.fr p8 (fr_97 _ (by omega)) | replace p8 := z_97 p8 | replace p8 := z_97
    first | replace p9 := eArr.fr p9 (fr_97 _ (by omega)) | replace p9 := Eq.trans (fr_97 _ (by omega)) p9 | replace p9 := eBo.fr p9 (fr_97 _ (by omega)) | replace p9 := z_97 p9 | replace p9 := z_97
    replace FR := eFr.trans FR (eFr.one fr_97 (by omega) (by omega))
    have e0 : sAddN σ a p m c y 0 1 = σ 0 1 + 1 := by simp [sAddN, su]
    exact ev_vret dX2_add_100 rfl rfl (by refine ⟨⟨by rw [e0]; exact p0, ?_, ?_, ?_, ?_, ?_, ?_, ?_, ?_, p9⟩, FR⟩ <;> rw [e0]; exact p1.congr (fun j hj => by simp [sAddN, su]); exact p2.congr (fun j hj => by simp [sAddN, su]); exact p3.congr (fun j hj => by simp [sAddN, su]); exact p4.congr (fun j hj => by simp [sAddN, su]); exact p5.congr (fun j hj => by simp [sAddN, su]); exact p6.congr (fun j hj => by simp [sAddN, su]); exact p7.congr (fun j hj => by simp [sAddN, su]); exact p8.congr (fun j hj => by simp [sAddN, su])) (fun _ e => Option.some.inj e) (Nat.le_of_ble_eq_true rfl) (Nat.le_of_ble_eq_true rfl)
  · exact absurd c_4 (by simp only [decide_eq_true_eq]; omega)
theorem sUse_at (σ : St) (k y u f j : Nat) : sUse σ k y u f j = if f = 10 ∧ j = k then σ 10 k + 1 else if f = 11 ∧ j = k then y else if f = 12 ∧ j = k ∧ σ 12 k = 0 ∧ u ≤ σ 10 k + 1 then 1 else if f = 13 ∧ j = k ∧ σ 12 k = 0 ∧ u ≤ σ 10 k + 1 then 1 else σ f j := by
  unfold sUse
  by_cases hc : σ 12 k = 0 ∧ u ≤ σ 10 k + 1
  · simp only [hc, and_self, if_true, and_true, ↓reduceIte]
    simp only [su]
    by_cases a1 : f = 13 <;> by_cases a2 : f = 12 <;> by_cases a3 : f = 11 <;> by_cases a4 : f = 10 <;> by_cases a5 : j = k <;> first | omega | simp_all
  · simp only [hc, if_false, and_false, ↓reduceIte]
    simp only [su]
    by_cases a3 : f = 11 <;> by_cases a4 : f = 10 <;> by_cases a5 : j = k <;> first | omega | simp_all
set_option maxHeartbeats 4000000 in
set_option maxRecDepth 20000 in
theorem c_X2_use {h : eH} {n q : Nat} {σ : St} (hN : eNm h q σ) (hB : eB σ) {k y u : Nat} (hk : k < σ 0 1) (hU : σ 10 k + 1 < 2 ^ 31) (hu : u < 2 ^ 31) : kX2_use [.ref q, .int (nI k), .int (nI y), .int (nI u)] h n (.inl none, (fun g => eNm g q (sUse σ k y u) ∧ eFr h g q (q + 9)), some n) 0 0 := by
  refine eM.of RX2 "use" [(0, .ref q), (1, .int (nI k)), (2, .int (nI y)), (3, .int (nI u))] pn_X2 rfl rfl (Nat.le_of_ble_eq_true rfl) rfl ?_
  obtain ⟨p0, p1, p2, p3, p4, p5, p6, p7, p8, p9⟩ := id hN
  have hm := p1.1
  have FR : eFr h h q (q + 9) := eFr.rf
  refine ev_aload_n dX2_use_0 rfl rfl ?_
  refine ev_getfield dX2_use_1 fl_X2_28 (by first | assumption | omega) rfl ?_
  refine ev_iload_n dX2_use_4 rfl rfl ?_
  refine ev_dup2 dX2_use_5 rfl rfl ?_
  refine ev_ialoadA dX2_use_6 (by first | assumption | omega) (by first | assumption | omega) ?_
  refine ev_iconst (v := nI 1) dX2_use_7 rfl ?_
  first | refine ev_iaddN dX2_use_8 ?_ | refine ev_iadd dX2_use_8 ?_
  refine ev_iastoreA dX2_use_9 (by first | assumption | omega) (by first | assumption | omega) (fun g_9 fr_9 w_9 => ?_)
  first | replace p0 := eArr.fr p0 (fr_9 _ (by omega)) | replace p0 := Eq.trans (fr_9 _ (by omega)) p0 | replace p0 := eBo.fr p0 (fr_9 _ (by omega)) | replace p0 := z_9 p0 | replace p0 := z_9
  first | replace p1 := eArr.fr p1 (fr_9 _ (by omega)) | replace p1 := Eq.trans (fr_9 _ (by omega)) p1 | replace p1 := eBo.fr p1 (fr_9 _ (by omega)) | replace p1 := z_9 p1 | replace p1 := z_9
  first | replace p2 := eArr.fr p2 (fr_9 _ (by omega)) | replace p2 := Eq.trans (fr_9 _ (by omega)) p2 | replace p2 := eBo.fr p2 (fr_9 _ (by omega)) | replace p2 := z_9 p2 | replace p2 := z_9
  first | replace p3 := eArr.fr p3 (fr_9 _ (by omega)) | replace p3 := Eq.trans (fr_9 _ (by omega)) p3 | replace p3 := eBo.fr p3 (fr_9 _ (by omega)) | replace p3 := z_9 p3 | replace p3 := z_9
  first | replace p4 := eArr.fr p4 (fr_9 _ (by omega)) | replace p4 := Eq.trans (fr_9 _ (by omega)) p4 | replace p4 := eBo.fr p4 (fr_9 _ (by omega)) | replace p4 := z_9 p4 | replace p4 := z_9
  replace p5 := w_9 _ (Or.inl (Nat.le_refl _))
  first | replace p6 := eArr.fr p6 (fr_9 _ (by omega)) | replace p6 := Eq.trans (fr_9 _ (by omega)) p6 | replace p6 := eBo.fr p6 (fr_9 _ (by omega)) | replace p6 := z_9 p6 | replace p6 := z_9
  first | replace p7 := eArr.fr p7 (fr_9 _ (by omega)) | replace p7 := Eq.trans (fr_9 _ (by omega)) p7 | replace p7 := eBo.fr p7 (fr_9 _ (by omega)) | replace p7 := z_9 p7 | replace p7 := z_9
  first | replace p8 := eArr.fr p8 (fr_9 _ (by omega)) | replace p8 := Eq.trans (fr_9 _ (by omega)) p8 | replace p8 := eBo.fr p8 (fr_9 _ (by omega)) | replace p8 := z_9 p8 | replace p8 := z_9
  first | replace p9 := eArr.fr p9 (fr_9 _ (by omega)) | replace p9 := Eq.trans (fr_9 _ (by omega)) p9 | replace p9 := eBo.fr p9 (fr_9 _ (by omega)) | replace p9 := z_9 p9 | replace p9 := z_9
  replace FR := eFr.trans FR (eFr.one fr_9 (by omega) (by omega))
  refine ev_aload_n dX2_use_10 rfl rfl ?_
  refine ev_getfield dX2_use_11 fl_X2_31 (by first | assumption | omega) rfl ?_
  refine ev_iload_n dX2_use_14 rfl rfl ?_
  refine ev_iload_n dX2_use_15 rfl rfl ?_
  refine ev_iastoreA dX2_use_16 (by first | assumption | omega) (by first | assumption | omega) (fun g_16 fr_16 w_16 => ?_)
  first | replace p0 := eArr.fr p0 (fr_16 _ (by omega)) | replace p0 := Eq.trans (fr_16 _ (by omega)) p0 | replace p0 := eBo.fr p0 (fr_16 _ (by omega)) | replace p0 := z_16 p0 | replace p0 := z_16
  first | replace p1 := eArr.fr p1 (fr_16 _ (by omega)) | replace p1 := Eq.trans (fr_16 _ (by omega)) p1 | replace p1 := eBo.fr p1 (fr_16 _ (by omega)) | replace p1 := z_16 p1 | replace p1 := z_16
  first | replace p2 := eArr.fr p2 (fr_16 _ (by omega)) | replace p2 := Eq.trans (fr_16 _ (by omega)) p2 | replace p2 := eBo.fr p2 (fr_16 _ (by omega)) | replace p2 := z_16 p2 | replace p2 := z_16
  first | replace p3 := eArr.fr p3 (fr_16 _ (by omega)) | replace p3 := Eq.trans (fr_16 _ (by omega)) p3 | replace p3 := eBo.fr p3 (fr_16 _ (by omega)) | replace p3 := z_16 p3 | replace p3 := z_16
  first | replace p4 := eArr.fr p4 (fr_16 _ (by omega)) | replace p4 := Eq.trans (fr_16 _ (by omega)) p4 | replace p4 := eBo.fr p4 (fr_16 _ (by omega)) | replace p4 := z_16 p4 | replace p4 := z_16
  first | replace p5 := eArr.fr p5 (fr_16 _ (by omega)) | replace p5 := Eq.trans (fr_16 _ (by omega)) p5 | replace p5 := eBo.fr p5 (fr_16 _ (by omega)) | replace p5 := z_16 p5 | replace p5 := z_16
  replace p6 := w_16 _ (Or.inl (Nat.le_refl _))
  first | replace p7 := eArr.fr p7 (fr_16 _ (by omega)) | replace p7 := Eq.trans (fr_16 _ (by omega)) p7 | replace p7 := eBo.fr p7 (fr_16 _ (by omega)) | replace p7 := z_16 p7 | replace p7 := z_16
  first | replace p8 := eArr.fr p8 (fr_16 _ (by omega)) | replace p8 := Eq.trans (fr_16 _ (by omega)) p8 | replace p8 := eBo.fr p8 (fr_16 _ (by omega)) | replace p8 := z_16 p8 | replace p8 := z_16
  first | replace p9 := eArr.fr p9 (fr_16 _ (by omega)) | replace p9 := Eq.trans (fr_16 _ (by omega)) p9 | replace p9 := eBo.fr p9 (fr_16 _ (by omega)) | replace p9 := z_16 p9 | replace p9 := z_16
  replace FR := eFr.trans FR (eFr.one fr_16 (by omega) (by omega))
  refine ev_aload_n dX2_use_17 rfl rfl ?_
  refine ev_getfield dX2_use_18 fl_X2_34 (by first | assumption | omega) rfl ?_
  refine ev_iload_n dX2_use_21 rfl rfl ?_
  refine ev_ialoadA dX2_use_22 (by first | assumption | omega) (by first | assumption | omega) ?_
  first | ((with_reducible show eV _ _ _ (Value.int (bI _) :: _) _ _ _ _); refine ev_if_neB (tgt := 50) dX2_use_23 (by decide) (fun c_23 => ?_) (fun c_23 => ?_)) | ((with_reducible show eV _ _ _ (Value.int (nI _) :: _) _ _ _ _); refine ev_if_neN (tgt := 50) dX2_use_23 (by decide) (by first | exact hB _ _ | omega | (simp only [if_true, ↓reduceIte]; omega)) (fun c_23 => ?_) (fun c_23 => ?_)) | (refine ev_if_neZ (tgt := 50) dX2_use_23 (by decide) (fun c_23 => ?_) (fun c_23 => ?_))
  · have e0 : sUse σ k y u 0 1 = σ 0 1 := by simp [sUse_at]
    exact ev_vret dX2_use_50 rfl rfl (by refine ⟨⟨by rw [e0]; exact p0, ?_, ?_, ?_, ?_, ?_, ?_, ?_, ?_, p9⟩, FR⟩ <;> rw [e0]; exact p1.congr (fun j hj => by simp [sUse_at]); exact p2.congr (fun j hj => by simp [sUse_at]); exact p3.congr (fun j hj => by simp [sUse_at]); exact p4.congr (fun j hj => by simp [sUse_at]); exact p5.congr (fun j hj => by simp [sUse_at]); exact p6.congr (fun j hj => by simp [sUse_at]); exact p7.congr (fun j hj => by by_cases z : j = k <;> first | omega | (subst z; simp [sUse_at]; omega) | simp [sUse_at, z]); exact p8.congr (fun j hj => by by_cases z : j = k <;> first | omega | (subst z; simp [sUse_at]; omega) | simp [sUse_at, z])) (fun _ e => Option.some.inj e) (Nat.le_of_ble_eq_true rfl) (Nat.le_of_ble_eq_true rfl)
  · refine ev_aload_n dX2_use_26 rfl rfl ?_
    refine ev_getfield dX2_use_27 fl_X2_28 (by first | assumption | omega) rfl ?_
    refine ev_iload_n dX2_use_30 rfl rfl ?_
    refine ev_ialoadA dX2_use_31 (by first | assumption | omega) (by first | assumption | omega) ?_
    refine ev_iload_n dX2_use_32 rfl rfl ?_
    first | ((with_reducible show eV _ _ _ (Value.int (nI _) :: Value.int (nI _) :: _) _ _ _ _); refine ev_icmp_ltN (tgt := 50) dX2_use_33 (by decide) (by first | exact hB _ _ | omega | (simp only [if_true, ↓reduceIte]; omega)) (by first | exact hB _ _ | omega | (simp only [if_true, ↓reduceIte]; omega)) (fun c_33 => ?_) (fun c_33 => ?_)) | ((with_reducible show eV _ _ _ (Value.int (nI _) :: _) _ _ _ _); refine ev_icmp_ltZN (tgt := 50) dX2_use_33 (by decide) (by first | exact hB _ _ | omega | (simp only [if_true, ↓reduceIte]; omega)) (fun c_33 => ?_) (fun c_33 => ?_)) | ((with_reducible show eV _ _ _ (_ :: Value.int (nI _) :: _) _ _ _ _); refine ev_icmp_ltNZ (tgt := 50) dX2_use_33 (by decide) (by first | exact hB _ _ | omega | (simp only [if_true, ↓reduceIte]; omega)) (fun c_33 => ?_) (fun c_33 => ?_)) | (refine ev_icmp_ltZZ (tgt := 50) dX2_use_33 (by decide) (fun c_33 => ?_) (fun c_33 => ?_))
    · simp only [if_true, ↓reduceIte] at c_33
      have e0 : sUse σ k y u 0 1 = σ 0 1 := by simp [sUse_at]
      exact ev_vret dX2_use_50 rfl rfl (by refine ⟨⟨by rw [e0]; exact p0, ?_, ?_, ?_, ?_, ?_, ?_, ?_, ?_, p9⟩, FR⟩ <;> rw [e0]; exact p1.congr (fun j hj => by simp [sUse_at]); exact p2.congr (fun j hj => by simp [sUse_at]); exact p3.congr (fun j hj => by simp [sUse_at]); exact p4.congr (fun j hj => by simp [sUse_at]); exact p5.congr (fun j hj => by simp [sUse_at]); exact p6.congr (fun j hj => by simp [sUse_at]); exact p7.congr (fun j hj => by by_cases z : j = k <;> first | omega | (subst z; simp [sUse_at]; omega) | simp [sUse_at, z]); exact p8.congr (fun j hj => by by_cases z : j = k <;> first | omega | (subst z; simp [sUse_at]; omega) | simp [sUse_at, z])) (fun _ e => Option.some.inj e) (Nat.le_of_ble_eq_true rfl) (Nat.le_of_ble_eq_true rfl)
    · simp only [if_true, ↓reduceIte] at c_33
      refine ev_aload_n dX2_use_36 rfl rfl ?_
      refine ev_getfield dX2_use_37 fl_X2_34 (by first | assumption | omega) rfl ?_
      refine ev_iload_n dX2_use_40 rfl rfl ?_
      refine ev_iconst (v := nI 1) dX2_use_41 rfl ?_
      refine ev_iastoreA dX2_use_42 (by first | assumption | omega) (by first | assumption | omega) (fun g_42 fr_42 w_42 => ?_)
      first | replace p0 := eArr.fr p0 (fr_42 _ (by omega)) | replace p0 := Eq.trans (fr_42 _ (by omega)) p0 | replace p0 := eBo.fr p0 (fr_42 _ (by omega)) | replace p0 := z_42 p0 | replace p0 := z_42
      first | replace p1 := eArr.fr p1 (fr_42 _ (by omega)) | replace p1 := Eq.trans (fr_42 _ (by omega)) p1 | replace p1 := eBo.fr p1 (fr_42 _ (by omega)) | replace p1 := z_42 p1 | replace p1 := z_42
      first | replace p2 := eArr.fr p2 (fr_42 _ (by omega)) | replace p2 := Eq.trans (fr_42 _ (by omega)) p2 | replace p2 := eBo.fr p2 (fr_42 _ (by omega)) | replace p2 := z_42 p2 | replace p2 := z_42
      first | replace p3 := eArr.fr p3 (fr_42 _ (by omega)) | replace p3 := Eq.trans (fr_42 _ (by omega)) p3 | replace p3 := eBo.fr p3 (fr_42 _ (by omega)) | replace p3 := z_42 p3 | replace p3 := z_42
      first | replace p4 := eArr.fr p4 (fr_42 _ (by omega)) | replace p4 := Eq.trans (fr_42 _ (by omega)) p4 | replace p4 := eBo.fr p4 (fr_42 _ (by omega)) | replace p4 := z_42 p4 | replace p4 := z_42
      first | replace p5 := eArr.fr p5 (fr_42 _ (by omega)) | replace p5 := Eq.trans (fr_42 _ (by omega)) p5 | replace p5 := eBo.fr p5 (fr_42 _ (by omega)) | replace p5 := z_42 p5 | replace p5 := z_42
      first | replace p6 := eArr.fr p6 (fr_42 _ (by omega)) | replace p6 := Eq.trans (fr_42 _ (by omega)) p6 | replace p6 := eBo.fr p6 (fr_42 _ (by omega)) | replace p6 := z_42 p6 | replace p6 := z_42
      replace p7 := w_42 _ (Or.inl (Nat.le_refl _))
      first | replace p8 := eArr.fr p8 (fr_42 _ (by omega)) | replace p8 := Eq.trans (fr_42 _ (by omega)) p8 | replace p8 := eBo.fr p8 (fr_42 _ (by omega)) | replace p8 := z_42 p8 | replace p8 := z_42
      first | replace p9 := eArr.fr p9 (fr_42 _ (by omega)) | replace p9 := Eq.trans (fr_42 _ (by omega)) p9 | replace p9 := eBo.fr p9 (fr_42 _ (by omega)) | replace p9 := z_42 p9 | replace p9 := z_42
      replace FR := eFr.trans FR (eFr.one fr_42 (by omega) (by omega))
      refine ev_aload_n dX2_use_43 rfl rfl ?_
      refine ev_getfield dX2_use_44 fl_X2_37 (by first | assumption | omega) rfl ?_
      refine ev_iload_n dX2_use_47 rfl rfl ?_
      refine ev_iconst (v := nI 1) dX2_use_48 rfl ?_
      refine ev_bastoreA dX2_use_49 (by first | assumption | omega) (by first | assumption | omega) (by decide) (fun g_49 fr_49 w_49 z_49 => ?_)
      first | replace p0 := eArr.fr p0 (fr_49 _ (by omega)) | replace p0 := Eq.trans (fr_49 _ (by omega)) p0 | replace p0 := eBo.fr p0 (fr_49 _ (by omega)) | replace p0 := z_49 p0 | replace p0 := z_49
      first | replace p1 := eArr.fr p1 (fr_49 _ (by omega)) | replace p1 := Eq.trans (fr_49 _ (by omega)) p1 | replace p1 := eBo.fr p1 (fr_49 _ (by omega)) | replace p1 := z_49 p1 | replace p1 := z_49
      first | replace p2 := eArr.fr p2 (fr_49 _ (by omega)) | replace p2 := Eq.trans (fr_49 _ (by omega)) p2 | replace p2 := eBo.fr p2 (fr_49 _ (by omega)) | replace p2 := z_49 p2 | replace p2 := z_49
      first | replace p3 := eArr.fr p3 (fr_49 _ (by omega)) | replace p3 := Eq.trans (fr_49 _ (by omega)) p3 | replace p3 := eBo.fr p3 (fr_49 _ (by omega)) | replace p3 := z_49 p3 | replace p3 := z_49
      first | replace p4 := eArr.fr p4 (fr_49 _ (by omega)) | replace p4 := Eq.trans (fr_49 _ (by omega)) p4 | replace p4 := eBo.fr p4 (fr_49 _ (by omega)) | replace p4 := z_49 p4 | replace p4 := z_49
      first | replace p5 := eArr.fr p5 (fr_49 _ (by omega)) | replace p5 := Eq.trans (fr_49 _ (by omega)) p5 | replace p5 := eBo.fr p5 (fr_49 _ (by omega)) | replace p5 := z_49 p5 | replace p5 := z_49
      first | replace p6 := eArr.fr p6 (fr_49 _ (by omega)) | replace p6 := Eq.trans (fr_49 _ (by omega)) p6 | replace p6 := eBo.fr p6 (fr_49 _ (by omega)) | replace p6 := z_49 p6 | replace p6 := z_49
      first | replace p7 := eArr.fr p7 (fr_49 _ (by omega)) | replace p7 := Eq.trans (fr_49 _ (by omega)) p7 | replace p7 := eBo.fr p7 (fr_49 _ (by omega)) | replace p7 := z_49 p7 | replace p7 := z_49
      replace p8 := w_49 _ (Or.inl (Nat.le_refl _))
      first | replace p9 := eArr.fr p9 (fr_49 _ (by omega)) | replace p9 := Eq.trans (fr_49 _ (by omega)) p9 | replace p9 := eBo.fr p9 (fr_49 _ (by omega)) | replace p9 := z_49 p9 | replace p9 := z_49
      replace FR := eFr.trans FR (eFr.one fr_49 (by omega) (by omega))
      have e0 : sUse σ k y u 0 1 = σ 0 1 := by simp [sUse_at]
      exact ev_vret dX2_use_50 rfl rfl (by refine ⟨⟨by rw [e0]; exact p0, ?_, ?_, ?_, ?_, ?_, ?_, ?_, ?_, p9⟩, FR⟩ <;> rw [e0]; exact p1.congr (fun j hj => by simp [sUse_at]); exact p2.congr (fun j hj => by simp [sUse_at]); exact p3.congr (fun j hj => by simp [sUse_at]); exact p4.congr (fun j hj => by simp [sUse_at]); exact p5.congr (fun j hj => by simp [sUse_at]); exact p6.congr (fun j hj => by simp [sUse_at]); exact p7.congr (fun j hj => by by_cases z : j = k <;> first | omega | (subst z; simp [sUse_at]; omega) | simp [sUse_at, z]); exact p8.congr (fun j hj => by by_cases z : j = k <;> first | omega | (subst z; simp [sUse_at]; omega) | simp [sUse_at, z])) (fun _ e => Option.some.inj e) (Nat.le_of_ble_eq_true rfl) (Nat.le_of_ble_eq_true rfl)
set_option maxHeartbeats 4000000 in
set_option maxRecDepth 20000 in
theorem c_X2_has {h : eH} {n q : Nat} {σ : St} (hN : eNm h q σ) (hB : eB σ) {x : Int32} : kX2_has [.ref q, .int x] h n (.inl (some (.int (bI (decide (0 ≤ x.toInt ∧ x.toInt < (σ 0 1 : Int)))))), (· = h), some n) 0 0 := by
  refine eM.of RX2 "has" [(0, .ref q), (1, .int x)] pn_X2 rfl rfl (Nat.le_of_ble_eq_true rfl) rfl ?_
  obtain ⟨h0, -⟩ := id hN
  refine ev_iload_n dX2_has_0 rfl rfl ?_
  first | ((with_reducible show eV _ _ _ (Value.int (nI _) :: _) _ _ _ _); refine ev_if_ltN (tgt := 16) dX2_has_1 (by decide) (by first | exact hB _ _ | omega) ?_) | (refine ev_if_ltZ (tgt := 16) dX2_has_1 (by decide) (fun c_1 => ?_) (fun c_1 => ?_))
  · refine ev_iconst (v := nI 0) dX2_has_16 rfl ?_
    exact ev_iret dX2_has_17 rfl (by first | rfl | exact bI_n _) (by first | exact bR0 (by simp only [decide_eq_true_eq, Bool.and_eq_true, Bool.and_eq_false_iff, Bool.or_eq_true, Bool.or_eq_false_iff, decide_eq_true_eq, decide_eq_false_iff_not, ne_eq]; omega) | exact bR1 (by simp only [decide_eq_true_eq, Bool.and_eq_true, Bool.and_eq_false_iff, Bool.or_eq_true, Bool.or_eq_false_iff, decide_eq_true_eq, decide_eq_false_iff_not, ne_eq]; omega) | exact bR0 (by simp [decide_eq_true_eq, *]; done) | exact bR1 (by simp [decide_eq_true_eq, *]; done)) (by rfl) (fun _ e => Option.some.inj e) (Nat.le_of_ble_eq_true rfl) (Nat.le_of_ble_eq_true rfl)
  · refine ev_iload_n dX2_has_4 rfl rfl ?_
    refine ev_aload_n dX2_has_5 rfl rfl ?_
    refine ev_getfield dX2_has_6 fl_X2_9 (by first | assumption | omega) rfl ?_
    first | ((with_reducible show eV _ _ _ (Value.int (nI _) :: Value.int (nI _) :: _) _ _ _ _); refine ev_icmp_geN (tgt := 16) dX2_has_9 (by decide) (by first | exact hB _ _ | omega) (by first | exact hB _ _ | omega) (fun c_9 => ?_) (fun c_9 => ?_)) | ((with_reducible show eV _ _ _ (Value.int (nI _) :: _) _ _ _ _); refine ev_icmp_geZN (tgt := 16) dX2_has_9 (by decide) (by first | exact hB _ _ | omega) (fun c_9 => ?_) (fun c_9 => ?_)) | ((with_reducible show eV _ _ _ (_ :: Value.int (nI _) :: _) _ _ _ _); refine ev_icmp_geNZ (tgt := 16) dX2_has_9 (by decide) (by first | exact hB _ _ | omega) (fun c_9 => ?_) (fun c_9 => ?_)) | (refine ev_icmp_geZZ (tgt := 16) dX2_has_9 (by decide) (fun c_9 => ?_) (fun c_9 => ?_))
    · refine ev_iconst (v := nI 0) dX2_has_16 rfl ?_
      exact ev_iret dX2_has_17 rfl (by first | rfl | exact bI_n _) (by first | exact bR0 (by simp only [decide_eq_true_eq, Bool.and_eq_true, Bool.and_eq_false_iff, Bool.or_eq_true, Bool.or_eq_false_iff, decide_eq_true_eq, decide_eq_false_iff_not, ne_eq]; omega) | exact bR1 (by simp only [decide_eq_true_eq, Bool.and_eq_true, Bool.and_eq_false_iff, Bool.or_eq_true, Bool.or_eq_false_iff, decide_eq_true_eq, decide_eq_false_iff_not, ne_eq]; omega) | exact bR0 (by simp [decide_eq_true_eq, *]; done) | exact bR1 (by simp [decide_eq_true_eq, *]; done)) (by rfl) (fun _ e => Option.some.inj e) (Nat.le_of_ble_eq_true rfl) (Nat.le_of_ble_eq_true rfl)
    · refine ev_iconst (v := nI 1) dX2_has_12 rfl ?_
      refine ev_goto (tgt := 17) dX2_has_13 (by decide) ?_
      exact ev_iret dX2_has_17 rfl (by first | rfl | exact bI_n _) (by first | exact bR0 (by simp only [decide_eq_true_eq, Bool.and_eq_true, Bool.and_eq_false_iff, Bool.or_eq_true, Bool.or_eq_false_iff, decide_eq_true_eq, decide_eq_false_iff_not, ne_eq]; omega) | exact bR1 (by simp only [decide_eq_true_eq, Bool.and_eq_true, Bool.and_eq_false_iff, Bool.or_eq_true, Bool.or_eq_false_iff, decide_eq_true_eq, decide_eq_false_iff_not, ne_eq]; omega) | exact bR0 (by simp [decide_eq_true_eq, *]; done) | exact bR1 (by simp [decide_eq_true_eq, *]; done)) (by rfl) (fun _ e => Option.some.inj e) (Nat.le_of_ble_eq_true rfl) (Nat.le_of_ble_eq_true rfl)
set_option maxHeartbeats 4000000 in
set_option maxRecDepth 20000 in
theorem c_X4_hasZ {h : eH} {n q : Nat} {σ : St} (hP : ePp h q σ) (hB : eB σ) {x : Int32} : kX4_has [.ref q, .int x] h n (.inl (some (.int (bI (decide (0 ≤ x.toInt ∧ x.toInt < (σ 0 0 : Int)))))), (· = h), some n) 0 0 := by
  refine eM.of RX4 "has" [(0, .ref q), (1, .int x)] pn_X4 rfl rfl (Nat.le_of_ble_eq_true rfl) rfl ?_
  obtain ⟨h0, -⟩ := id hP
  refine ev_iload_n dX4_has_0 rfl rfl ?_
  first | ((with_reducible show eV _ _ _ (Value.int (nI _) :: _) _ _ _ _); refine ev_if_ltN (tgt := 16) dX4_has_1 (by decide) (by first | exact hB _ _ | omega) ?_) | (refine ev_if_ltZ (tgt := 16) dX4_has_1 (by decide) (fun c_1 => ?_) (fun c_1 => ?_))
  · refine ev_iconst (v := nI 0) dX4_has_16 rfl ?_
    exact ev_iret dX4_has_17 rfl (by first | rfl | exact bI_n _) (by first | exact bR0 (by simp only [decide_eq_true_eq, Bool.and_eq_true, Bool.and_eq_false_iff, Bool.or_eq_true, Bool.or_eq_false_iff, decide_eq_true_eq, decide_eq_false_iff_not, ne_eq]; omega) | exact bR1 (by simp only [decide_eq_true_eq, Bool.and_eq_true, Bool.and_eq_false_iff, Bool.or_eq_true, Bool.or_eq_false_iff, decide_eq_true_eq, decide_eq_false_iff_not, ne_eq]; omega) | exact bR0 (by simp [decide_eq_true_eq, *]; done) | exact bR1 (by simp [decide_eq_true_eq, *]; done)) (by rfl) (fun _ e => Option.some.inj e) (Nat.le_of_ble_eq_true rfl) (Nat.le_of_ble_eq_true rfl)
  · refine ev_iload_n dX4_has_4 rfl rfl ?_
    refine ev_aload_n dX4_has_5 rfl rfl ?_
    refine ev_getfield dX4_has_6 fl_X4_9 (by first | assumption | omega) rfl ?_
    first | ((with_reducible show eV _ _ _ (Value.int (nI _) :: Value.int (nI _) :: _) _ _ _ _); refine ev_icmp_geN (tgt := 16) dX4_has_9 (by decide) (by first | exact hB _ _ | omega) (by first | exact hB _ _ | omega) (fun c_9 => ?_) (fun c_9 => ?_)) | ((with_reducible show eV _ _ _ (Value.int (nI _) :: _) _ _ _ _); refine ev_icmp_geZN (tgt := 16) dX4_has_9 (by decide) (by first | exact hB _ _ | omega) (fun c_9 => ?_) (fun c_9 => ?_)) | ((with_reducible show eV _ _ _ (_ :: Value.int (nI _) :: _) _ _ _ _); refine ev_icmp_geNZ (tgt := 16) dX4_has_9 (by decide) (by first | exact hB _ _ | omega) (fun c_9 => ?_) (fun c_9 => ?_)) | (refine ev_icmp_geZZ (tgt := 16) dX4_has_9 (by decide) (fun c_9 => ?_) (fun c_9 => ?_))
    · refine ev_iconst (v := nI 0) dX4_has_16 rfl ?_
      exact ev_iret dX4_has_17 rfl (by first | rfl | exact bI_n _) (by first | exact bR0 (by simp only [decide_eq_true_eq, Bool.and_eq_true, Bool.and_eq_false_iff, Bool.or_eq_true, Bool.or_eq_false_iff, decide_eq_true_eq, decide_eq_false_iff_not, ne_eq]; omega) | exact bR1 (by simp only [decide_eq_true_eq, Bool.and_eq_true, Bool.and_eq_false_iff, Bool.or_eq_true, Bool.or_eq_false_iff, decide_eq_true_eq, decide_eq_false_iff_not, ne_eq]; omega) | exact bR0 (by simp [decide_eq_true_eq, *]; done) | exact bR1 (by simp [decide_eq_true_eq, *]; done)) (by rfl) (fun _ e => Option.some.inj e) (Nat.le_of_ble_eq_true rfl) (Nat.le_of_ble_eq_true rfl)
    · refine ev_iconst (v := nI 1) dX4_has_12 rfl ?_
      refine ev_goto (tgt := 17) dX4_has_13 (by decide) ?_
      exact ev_iret dX4_has_17 rfl (by first | rfl | exact bI_n _) (by first | exact bR0 (by simp only [decide_eq_true_eq, Bool.and_eq_true, Bool.and_eq_false_iff, Bool.or_eq_true, Bool.or_eq_false_iff, decide_eq_true_eq, decide_eq_false_iff_not, ne_eq]; omega) | exact bR1 (by simp only [decide_eq_true_eq, Bool.and_eq_true, Bool.and_eq_false_iff, Bool.or_eq_true, Bool.or_eq_false_iff, decide_eq_true_eq, decide_eq_false_iff_not, ne_eq]; omega) | exact bR0 (by simp [decide_eq_true_eq, *]; done) | exact bR1 (by simp [decide_eq_true_eq, *]; done)) (by rfl) (fun _ e => Option.some.inj e) (Nat.le_of_ble_eq_true rfl) (Nat.le_of_ble_eq_true rfl)

