set_option maxHeartbeats 4000000 in
set_option maxRecDepth 20000 in
theorem c_X4_isYoungerBeside {h : eH} {n q : Nat} {σ : St} (hP : ePp h q σ) (hB : eB σ) {a b : Nat} (ha : a < σ 0 0) (hb : b < σ 0 0) : kX4_isYoungerBeside [.ref q, .int (nI a), .int (nI b)] h n (.inl (some (.int (bI (decide (σ 2 a = σ 2 b) && (decide (σ 1 a < σ 1 b) && decide (σ 3 a = σ 3 b)))))), (· = h), some n) 0 0 := by
  refine eM.of RX4 "isYoungerBeside" [(0, .ref q), (1, .int (nI a)), (2, .int (nI b))] pn_X4 rfl rfl (Nat.le_of_ble_eq_true rfl) rfl ?_
  obtain ⟨h0, h1, h2, h3, h4, h5⟩ := hP
  refine ev_aload_n dX4_isYoungerBeside_0 rfl rfl ?_
  refine ev_getfield dX4_isYoungerBeside_1 fl_X4_19 (by first | assumption | omega) rfl ?_
  refine ev_iload_n dX4_isYoungerBeside_4 rfl rfl ?_
  refine ev_ialoadA dX4_isYoungerBeside_5 (by first | assumption | omega) (by first | assumption | omega) ?_
  refine ev_aload_n dX4_isYoungerBeside_6 rfl rfl ?_
  refine ev_getfield dX4_isYoungerBeside_7 fl_X4_19 (by first | assumption | omega) rfl ?_
  refine ev_iload_n dX4_isYoungerBeside_10 rfl rfl ?_
  refine ev_ialoadA dX4_isYoungerBeside_11 (by first | assumption | omega) (by first | assumption | omega) ?_
  first | ((with_reducible show eV _ _ _ (Value.int (nI _) :: Value.int (nI _) :: _) _ _ _ _); refine ev_icmp_neN (tgt := 49) dX4_isYoungerBeside_12 (by decide) (by first | exact hB _ _ | omega) (by first | exact hB _ _ | omega) (fun c_12 => ?_) (fun c_12 => ?_)) | ((with_reducible show eV _ _ _ (Value.int (-1) :: Value.int (oI _) :: _) _ _ _ _); refine ev_icmp_neO (tgt := 49) dX4_isYoungerBeside_12 (by decide) (by first | assumption | (intro k9 h9; exact absurd h9 (by simp)) | (intro k9 h9; have := (fst_lt h9).1; omega) | (intro k9 h9; cases h9; omega)) (fun c_12 => ?_) (fun c_12 => ?_)) | ((with_reducible show eV _ _ _ (Value.int (nI _) :: _) _ _ _ _); refine ev_icmp_neZN (tgt := 49) dX4_isYoungerBeside_12 (by decide) (by first | exact hB _ _ | omega) (fun c_12 => ?_) (fun c_12 => ?_)) | ((with_reducible show eV _ _ _ (_ :: Value.int (nI _) :: _) _ _ _ _); refine ev_icmp_neNZ (tgt := 49) dX4_isYoungerBeside_12 (by decide) (by first | exact hB _ _ | omega) (fun c_12 => ?_) (fun c_12 => ?_)) | (refine ev_icmp_neZZ (tgt := 49) dX4_isYoungerBeside_12 (by decide) (fun c_12 => ?_) (fun c_12 => ?_))
  · refine ev_iconst (v := nI 0) dX4_isYoungerBeside_49 rfl ?_
    exact ev_iret dX4_isYoungerBeside_50 rfl (by first | rfl | exact bI_n _) (by first | exact bR0 (by simp only [bI, Bool.and_eq_true, Bool.and_eq_false_iff, Bool.or_eq_true, Bool.or_eq_false_iff, decide_eq_true_eq, decide_eq_false_iff_not, ne_eq]; omega) | exact bR1 (by simp only [bI, Bool.and_eq_true, Bool.and_eq_false_iff, Bool.or_eq_true, Bool.or_eq_false_iff, decide_eq_true_eq, decide_eq_false_iff_not, ne_eq]; omega) | exact bR0 (by simp [bI, *]; done) | exact bR1 (by simp [bI, *]; done)) (by rfl) (fun _ e => Option.some.inj e) (Nat.le_of_ble_eq_true rfl) (Nat.le_of_ble_eq_true rfl)
  · refine ev_aload_n dX4_isYoungerBeside_15 rfl rfl ?_
    refine ev_getfield dX4_isYoungerBeside_16 fl_X4_15 (by first | assumption | omega) rfl ?_
    refine ev_iload_n dX4_isYoungerBeside_19 rfl rfl ?_
    refine ev_ialoadA dX4_isYoungerBeside_20 (by first | assumption | omega) (by first | assumption | omega) ?_
    refine ev_aload_n dX4_isYoungerBeside_21 rfl rfl ?_
    refine ev_getfield dX4_isYoungerBeside_22 fl_X4_15 (by first | assumption | omega) rfl ?_
    refine ev_iload_n dX4_isYoungerBeside_25 rfl rfl ?_
    refine ev_ialoadA dX4_isYoungerBeside_26 (by first | assumption | omega) (by first | assumption | omega) ?_
    first | ((with_reducible show eV _ _ _ (Value.int (nI _) :: Value.int (nI _) :: _) _ _ _ _); refine ev_icmp_geN (tgt := 49) dX4_isYoungerBeside_27 (by decide) (by first | exact hB _ _ | omega) (by first | exact hB _ _ | omega) (fun c_27 => ?_) (fun c_27 => ?_)) | ((with_reducible show eV _ _ _ (Value.int (nI _) :: _) _ _ _ _); refine ev_icmp_geZN (tgt := 49) dX4_isYoungerBeside_27 (by decide) (by first | exact hB _ _ | omega) (fun c_27 => ?_) (fun c_27 => ?_)) | ((with_reducible show eV _ _ _ (_ :: Value.int (nI _) :: _) _ _ _ _); refine ev_icmp_geNZ (tgt := 49) dX4_isYoungerBeside_27 (by decide) (by first | exact hB _ _ | omega) (fun c_27 => ?_) (fun c_27 => ?_)) | (refine ev_icmp_geZZ (tgt := 49) dX4_isYoungerBeside_27 (by decide) (fun c_27 => ?_) (fun c_27 => ?_))
    · refine ev_iconst (v := nI 0) dX4_isYoungerBeside_49 rfl ?_
      exact ev_iret dX4_isYoungerBeside_50 rfl (by first | rfl | exact bI_n _) (by first | exact bR0 (by simp only [bI, Bool.and_eq_true, Bool.and_eq_false_iff, Bool.or_eq_true, Bool.or_eq_false_iff, decide_eq_true_eq, decide_eq_false_iff_not, ne_eq]; omega) | exact bR1 (by simp only [bI, Bool.and_eq_true, Bool.and_eq_false_iff, Bool.or_eq_true, Bool.or_eq_false_iff, decide_eq_true_eq, decide_eq_false_iff_not, ne_eq]; omega) | exact bR0 (by simp [bI, *]; done) | exact bR1 (by simp [bI, *]; done)) (by rfl) (fun _ e => Option.some.inj e) (Nat.le_of_ble_eq_true rfl) (Nat.le_of_ble_eq_true rfl)
    · refine ev_aload_n dX4_isYoungerBeside_30 rfl rfl ?_
      refine ev_getfield dX4_isYoungerBeside_31 fl_X4_22 (by first | assumption | omega) rfl ?_
      refine ev_iload_n dX4_isYoungerBeside_34 rfl rfl ?_
      refine ev_ialoadA dX4_isYoungerBeside_35 (by first | assumption | omega) (by first | assumption | omega) ?_
      refine ev_aload_n dX4_isYoungerBeside_36 rfl rfl ?_
      refine ev_getfield dX4_isYoungerBeside_37 fl_X4_22 (by first | assumption | omega) rfl ?_
      refine ev_iload_n dX4_isYoungerBeside_40 rfl rfl ?_
      refine ev_ialoadA dX4_isYoungerBeside_41 (by first | assumption | omega) (by first | assumption | omega) ?_
      first | ((with_reducible show eV _ _ _ (Value.int (nI _) :: Value.int (nI _) :: _) _ _ _ _); refine ev_icmp_neN (tgt := 49) dX4_isYoungerBeside_42 (by decide) (by first | exact hB _ _ | omega) (by first | exact hB _ _ | omega) (fun c_42 => ?_) (fun c_42 => ?_)) | ((with_reducible show eV _ _ _ (Value.int (-1) :: Value.int (oI _) :: _) _ _ _ _); refine ev_icmp_neO (tgt := 49) dX4_isYoungerBeside_42 (by decide) (by first | assumption | (intro k9 h9; exact absurd h9 (by simp)) | (intro k9 h9; have := (fst_lt h9).1; omega) | (intro k9 h9; cases h9; omega)) (fun c_42 => ?_) (fun c_42 => ?_)) | ((with_reducible show eV _ _ _ (Value.int (nI _) :: _) _ _ _ _); refine ev_icmp_neZN (tgt := 49) dX4_isYoungerBeside_42 (by decide) (by first | exact hB _ _ | omega) (fun c_42 => ?_) (fun c_42 => ?_)) | ((with_reducible show eV _ _ _ (_ :: Value.int (nI _) :: _) _ _ _ _); refine ev_icmp_neNZ (tgt := 49) dX4_isYoungerBeside_42 (by decide) (by first | exact hB _ _ | omega) (fun c_42 => ?_) (fun c_42 => ?_)) | (refine ev_icmp_neZZ (tgt := 49) dX4_isYoungerBeside_42 (by decide) (fun c_42 => ?_) (fun c_42 => ?_))
      · refine ev_iconst (v := nI 0) dX4_isYoungerBeside_49 rfl ?_
        exact ev_iret dX4_isYoungerBeside_50 rfl (by first | rfl | exact bI_n _) (by first | exact bR0 (by simp only [bI, Bool.and_eq_true, Bool.and_eq_false_iff, Bool.or_eq_true, Bool.or_eq_false_iff, decide_eq_true_eq, decide_eq_false_iff_not, ne_eq]; omega) | exact bR1 (by simp only [bI, Bool.and_eq_true, Bool.and_eq_false_iff, Bool.or_eq_true, Bool.or_eq_false_iff, decide_eq_true_eq, decide_eq_false_iff_not, ne_eq]; omega) | exact bR0 (by simp [bI, *]; done) | exact bR1 (by simp [bI, *]; done)) (by rfl) (fun _ e => Option.some.inj e) (Nat.le_of_ble_eq_true rfl) (Nat.le_of_ble_eq_true rfl)
      · refine ev_iconst (v := nI 1) dX4_isYoungerBeside_45 rfl ?_
        refine ev_goto (tgt := 50) dX4_isYoungerBeside_46 (by decide) ?_
        exact ev_iret dX4_isYoungerBeside_50 rfl (by first | rfl | exact bI_n _) (by first | exact bR0 (by simp only [bI, Bool.and_eq_true, Bool.and_eq_false_iff, Bool.or_eq_true, Bool.or_eq_false_iff, decide_eq_true_eq, decide_eq_false_iff_not, ne_eq]; omega) | exact bR1 (by simp only [bI, Bool.and_eq_true, Bool.and_eq_false_iff, Bool.or_eq_true, Bool.or_eq_false_iff, decide_eq_true_eq, decide_eq_false_iff_not, ne_eq]; omega) | exact bR0 (by simp [bI, *]; done) | exact bR1 (by simp [bI, *]; done)) (by rfl) (fun _ e => Option.some.inj e) (Nat.le_of_ble_eq_true rfl) (Nat.le_of_ble_eq_true rfl)
set_option maxHeartbeats 4000000 in
set_option maxRecDepth 20000 in
theorem c_X4_brothersOf {h : eH} {n q : Nat} {σ : St} (hP : ePp h q σ) (hB : eB σ) {p : Nat} (hp : p < σ 0 0) : kX4_brothersOf [.ref q, .int (nI p)] h n (.inl (some (.int (nI (sBrothers σ p)))), (· = h), some n) 0 0 := by
  refine eM.of RX4 "brothersOf" [(0, .ref q), (1, .int (nI p))] pn_X4 rfl rfl (Nat.le_of_ble_eq_true rfl) rfl ?_
  have hm := hP.2.1.1
  obtain ⟨h0, h1, h2, h3, h4, h5⟩ := id hP
  refine ev_iconst (v := nI 0) dX4_brothersOf_0 rfl ?_
  refine ev_istore_n dX4_brothersOf_1 rfl (Nat.le_of_ble_eq_true rfl) ?_
  refine ev_iconst (v := nI 0) dX4_brothersOf_2 rfl ?_
  refine ev_istore_n dX4_brothersOf_3 rfl (Nat.le_of_ble_eq_true rfl) ?_
  have H_4 : ∀ (d_4 : Nat) (k f : Nat), d_4 = σ 0 0 - k → (k ≤ σ 0 0) → (f = cnt (fun q => sBro σ p q) k) → eV mX4_brothersOf 4 [(0, .ref q), (1, .int (nI p)), (2, .int (nI f)), (3, .int (nI k))] [] (h, n, 0, 0) (.inl (some (.int (nI (sBrothers σ p)))), (· = h), some n) 0 0 := by
    intro d_4
    induction d_4 using Nat.strongRecOn with
    | _ d_4 ih_4 =>
    intro k f hd_4 hk hf
    refine ev_iload_n dX4_brothersOf_4 rfl rfl ?_
    refine ev_aload_n dX4_brothersOf_5 rfl rfl ?_
    refine ev_getfield dX4_brothersOf_6 fl_X4_9 (by first | assumption | omega) rfl ?_
    first | ((with_reducible show eV _ _ _ (Value.int (nI _) :: Value.int (nI _) :: _) _ _ _ _); refine ev_icmp_geN (tgt := 30) dX4_brothersOf_9 (by decide) (by first | exact hB _ _ | omega) (by first | exact hB _ _ | omega) (fun c_9 => ?_) (fun c_9 => ?_)) | ((with_reducible show eV _ _ _ (Value.int (nI _) :: _) _ _ _ _); refine ev_icmp_geZN (tgt := 30) dX4_brothersOf_9 (by decide) (by first | exact hB _ _ | omega) (fun c_9 => ?_) (fun c_9 => ?_)) | ((with_reducible show eV _ _ _ (_ :: Value.int (nI _) :: _) _ _ _ _); refine ev_icmp_geNZ (tgt := 30) dX4_brothersOf_9 (by decide) (by first | exact hB _ _ | omega) (fun c_9 => ?_) (fun c_9 => ?_)) | (refine ev_icmp_geZZ (tgt := 30) dX4_brothersOf_9 (by decide) (fun c_9 => ?_) (fun c_9 => ?_))
    · refine ev_iload_n dX4_brothersOf_30 rfl rfl ?_
      exact ev_iret dX4_brothersOf_31 rfl rfl (by exact nR (by have e : k = σ 0 0 := (by omega); rw [sBrothers, hf, ← e])) (by rfl) (fun _ e => Option.some.inj e) (Nat.le_of_ble_eq_true rfl) (Nat.le_of_ble_eq_true rfl)
    · refine ev_aload_n dX4_brothersOf_12 rfl rfl ?_
      refine ev_iload_n dX4_brothersOf_13 rfl rfl ?_
      refine ev_iload_n dX4_brothersOf_14 rfl rfl ?_
      refine ev_callVi dX4_brothersOf_15 (c_X4_areBrothers (by first | assumption | omega) (by first | assumption | omega) (by first | assumption | omega) (by first | assumption | omega)) rfl lk_X4_41 (by first | assumption | omega) ⟨Nat.le_of_ble_eq_true rfl, Nat.le_of_ble_eq_true rfl⟩ rfl (Nat.le_of_ble_eq_true rfl) ⟨Nat.le_of_ble_eq_true rfl, Nat.le_of_ble_eq_true rfl⟩ (eRo ?_)
      first | ((with_reducible show eV _ _ _ (Value.int (bI _) :: _) _ _ _ _); refine ev_if_eqB (tgt := 24) dX4_brothersOf_18 (by decide) (fun c_18 => ?_) (fun c_18 => ?_)) | ((with_reducible show eV _ _ _ (Value.int (nI _) :: _) _ _ _ _); refine ev_if_eqN (tgt := 24) dX4_brothersOf_18 (by decide) (by first | exact hB _ _ | omega) (fun c_18 => ?_) (fun c_18 => ?_)) | (refine ev_if_eqZ (tgt := 24) dX4_brothersOf_18 (by decide) (fun c_18 => ?_) (fun c_18 => ?_))
      · first | refine ev_iincN dX4_brothersOf_24 rfl (Nat.le_of_ble_eq_true rfl) ?_ | refine ev_iinc dX4_brothersOf_24 rfl rfl (Nat.le_of_ble_eq_true rfl) ?_
        refine ev_goto (tgt := 4) dX4_brothersOf_27 (by decide) ?_
        exact (ih_4 _ (by omega) _ _  rfl (by first | omega | assumption | rfl) (by first | (rw [cnt_f (by assumption)]; exact hf) | (rw [cnt_t (by assumption), ← hf]))).sub1 ⟨rfl, rfl, rfl, rfl, trivial⟩ rfl
      · first | refine ev_iincN dX4_brothersOf_21 rfl (Nat.le_of_ble_eq_true rfl) ?_ | refine ev_iinc dX4_brothersOf_21 rfl rfl (Nat.le_of_ble_eq_true rfl) ?_
        first | refine ev_iincN dX4_brothersOf_24 rfl (Nat.le_of_ble_eq_true rfl) ?_ | refine ev_iinc dX4_brothersOf_24 rfl rfl (Nat.le_of_ble_eq_true rfl) ?_
        refine ev_goto (tgt := 4) dX4_brothersOf_27 (by decide) ?_
        exact (ih_4 _ (by omega) _ _  rfl (by first | omega | assumption | rfl) (by first | (rw [cnt_f (by assumption)]; exact hf) | (rw [cnt_t (by assumption), ← hf]))).sub1 ⟨rfl, rfl, rfl, rfl, trivial⟩ rfl
  exact (H_4 _ 0 0 rfl (by first | omega | assumption | rfl) (by first | omega | assumption | rfl)).sub1 ⟨rfl, rfl, rfl, rfl, trivial⟩ rfl
set_option maxHeartbeats 4000000 in
set_option maxRecDepth 20000 in
theorem c_X4_firstBrotherOn {h : eH} {n q : Nat} {σ : St} (hP : ePp h q σ) (hB : eB σ) {b p : Nat} (hb : b < 2 ^ 31) (hp : p < σ 0 0) : kX4_firstBrotherOn [.ref q, .int (nI b), .int (nI p)] h n (.inl (some (.int (oI (sFBO σ b p)))), (· = h), some n) 0 0 := by
  refine eM.of RX4 "firstBrotherOn" [(0, .ref q), (1, .int (nI b)), (2, .int (nI p))] pn_X4 rfl rfl (Nat.le_of_ble_eq_true rfl) rfl ?_
  have hm := hP.2.1.1
  obtain ⟨h0, h1, h2, h3, h4, h5⟩ := id hP
  refine ev_iconst (v := nI 0) dX4_firstBrotherOn_0 rfl ?_
  refine ev_istore_n dX4_firstBrotherOn_1 rfl (Nat.le_of_ble_eq_true rfl) ?_
  have H_2 : ∀ (d_2 : Nat) (k : Nat), d_2 = σ 0 0 - k → (k ≤ σ 0 0) → (fst (fun q => decide (σ 3 q = b) && sBro σ p q) k = none) → eV mX4_firstBrotherOn 2 [(0, .ref q), (1, .int (nI b)), (2, .int (nI p)), (3, .int (nI k))] [] (h, n, 0, 0) (.inl (some (.int (oI (sFBO σ b p)))), (· = h), some n) 0 0 := by
    intro d_2
    induction d_2 using Nat.strongRecOn with
    | _ d_2 ih_2 =>
    intro k hd_2 hk hf
    refine ev_iload_n dX4_firstBrotherOn_2 rfl rfl ?_
    refine ev_aload_n dX4_firstBrotherOn_3 rfl rfl ?_
    refine ev_getfield dX4_firstBrotherOn_4 fl_X4_9 (by first | assumption | omega) rfl ?_
    first | ((with_reducible show eV _ _ _ (Value.int (nI _) :: Value.int (nI _) :: _) _ _ _ _); refine ev_icmp_geN (tgt := 37) dX4_firstBrotherOn_7 (by decide) (by first | exact hB _ _ | omega) (by first | exact hB _ _ | omega) (fun c_7 => ?_) (fun c_7 => ?_)) | ((with_reducible show eV _ _ _ (Value.int (nI _) :: _) _ _ _ _); refine ev_icmp_geZN (tgt := 37) dX4_firstBrotherOn_7 (by decide) (by first | exact hB _ _ | omega) (fun c_7 => ?_) (fun c_7 => ?_)) | ((with_reducible show eV _ _ _ (_ :: Value.int (nI _) :: _) _ _ _ _); refine ev_icmp_geNZ (tgt := 37) dX4_firstBrotherOn_7 (by decide) (by first | exact hB _ _ | omega) (fun c_7 => ?_) (fun c_7 => ?_)) | (refine ev_icmp_geZZ (tgt := 37) dX4_firstBrotherOn_7 (by decide) (fun c_7 => ?_) (fun c_7 => ?_))
    · refine ev_iconst (v := -1) dX4_firstBrotherOn_37 (by decide) ?_
      exact ev_iret dX4_firstBrotherOn_38 rfl rfl (by exact oRn (by have e : k = σ 0 0 := (by omega); rw [sFBO, ← e]; exact hf)) (by rfl) (fun _ e => Option.some.inj e) (Nat.le_of_ble_eq_true rfl) (Nat.le_of_ble_eq_true rfl)
    · refine ev_aload_n dX4_firstBrotherOn_10 rfl rfl ?_
      refine ev_getfield dX4_firstBrotherOn_11 fl_X4_22 (by first | assumption | omega) rfl ?_
      refine ev_iload_n dX4_firstBrotherOn_14 rfl rfl ?_
      refine ev_ialoadA dX4_firstBrotherOn_15 (by first | assumption | omega) (by first | assumption | omega) ?_
      refine ev_iload_n dX4_firstBrotherOn_16 rfl rfl ?_
      first | ((with_reducible show eV _ _ _ (Value.int (nI _) :: Value.int (nI _) :: _) _ _ _ _); refine ev_icmp_neN (tgt := 31) dX4_firstBrotherOn_17 (by decide) (by first | exact hB _ _ | omega) (by first | exact hB _ _ | omega) (fun c_17 => ?_) (fun c_17 => ?_)) | ((with_reducible show eV _ _ _ (Value.int (-1) :: Value.int (oI _) :: _) _ _ _ _); refine ev_icmp_neO (tgt := 31) dX4_firstBrotherOn_17 (by decide) (by first | assumption | (intro k9 h9; exact absurd h9 (by simp)) | (intro k9 h9; have := (fst_lt h9).1; omega) | (intro k9 h9; cases h9; omega)) (fun c_17 => ?_) (fun c_17 => ?_)) | ((with_reducible show eV _ _ _ (Value.int (nI _) :: _) _ _ _ _); refine ev_icmp_neZN (tgt := 31) dX4_firstBrotherOn_17 (by decide) (by first | exact hB _ _ | omega) (fun c_17 => ?_) (fun c_17 => ?_)) | ((with_reducible show eV _ _ _ (_ :: Value.int (nI _) :: _) _ _ _ _); refine ev_icmp_neNZ (tgt := 31) dX4_firstBrotherOn_17 (by decide) (by first | exact hB _ _ | omega) (fun c_17 => ?_) (fun c_17 => ?_)) | (refine ev_icmp_neZZ (tgt := 31) dX4_firstBrotherOn_17 (by decide) (fun c_17 => ?_) (fun c_17 => ?_))
      · first | refine ev_iincN dX4_firstBrotherOn_31 rfl (Nat.le_of_ble_eq_true rfl) ?_ | refine ev_iinc dX4_firstBrotherOn_31 rfl rfl (Nat.le_of_ble_eq_true rfl) ?_
        refine ev_goto (tgt := 2) dX4_firstBrotherOn_34 (by decide) ?_
        exact (ih_2 _ (by omega) _  rfl (by first | omega | assumption | rfl) (by exact fst_s hf (by simp [*]; done))).sub1 ⟨rfl, rfl, rfl, rfl, trivial⟩ rfl
      · refine ev_aload_n dX4_firstBrotherOn_20 rfl rfl ?_
        refine ev_iload_n dX4_firstBrotherOn_21 rfl rfl ?_
        refine ev_iload_n dX4_firstBrotherOn_22 rfl rfl ?_
        refine ev_callVi dX4_firstBrotherOn_23 (c_X4_areBrothers (by first | assumption | omega) (by first | assumption | omega) (by first | assumption | omega) (by first | assumption | omega)) rfl lk_X4_41 (by first | assumption | omega) ⟨Nat.le_of_ble_eq_true rfl, Nat.le_of_ble_eq_true rfl⟩ rfl (Nat.le_of_ble_eq_true rfl) ⟨Nat.le_of_ble_eq_true rfl, Nat.le_of_ble_eq_true rfl⟩ (eRo ?_)
        first | ((with_reducible show eV _ _ _ (Value.int (bI _) :: _) _ _ _ _); refine ev_if_eqB (tgt := 31) dX4_firstBrotherOn_26 (by decide) (fun c_26 => ?_) (fun c_26 => ?_)) | ((with_reducible show eV _ _ _ (Value.int (nI _) :: _) _ _ _ _); refine ev_if_eqN (tgt := 31) dX4_firstBrotherOn_26 (by decide) (by first | exact hB _ _ | omega) (fun c_26 => ?_) (fun c_26 => ?_)) | (refine ev_if_eqZ (tgt := 31) dX4_firstBrotherOn_26 (by decide) (fun c_26 => ?_) (fun c_26 => ?_))
        · first | refine ev_iincN dX4_firstBrotherOn_31 rfl (Nat.le_of_ble_eq_true rfl) ?_ | refine ev_iinc dX4_firstBrotherOn_31 rfl rfl (Nat.le_of_ble_eq_true rfl) ?_
          refine ev_goto (tgt := 2) dX4_firstBrotherOn_34 (by decide) ?_
          exact (ih_2 _ (by omega) _  rfl (by first | omega | assumption | rfl) (by exact fst_s hf (by simp [*]; done))).sub1 ⟨rfl, rfl, rfl, rfl, trivial⟩ rfl
        · refine ev_iload_n dX4_firstBrotherOn_29 rfl rfl ?_
          exact ev_iret dX4_firstBrotherOn_30 rfl rfl (by exact oR (fst_up hf (by simp [*]; done) (by omega))) (by rfl) (fun _ e => Option.some.inj e) (Nat.le_of_ble_eq_true rfl) (Nat.le_of_ble_eq_true rfl)
  exact (H_2 _ 0 rfl (by first | omega | assumption | rfl) (by first | omega | assumption | rfl)).sub1 ⟨rfl, rfl, rfl, rfl, trivial⟩ rfl
set_option maxHeartbeats 4000000 in
set_option maxRecDepth 20000 in
theorem c_X2_isFull {h : eH} {n q : Nat} {σ : St} (hN : eNm h q σ) (hB : eB σ) : kX2_isFull [.ref q] h n (.inl (some (.int (bI (decide (40 ≤ σ 0 1))))), (· = h), some n) 0 0 := by
  refine eM.of RX2 "isFull" [(0, .ref q)] pn_X2 rfl rfl (Nat.le_of_ble_eq_true rfl) rfl ?_
  obtain ⟨h0, h1, h2, h3, h4, h5, h6, h7, h8, h9⟩ := hN
  refine ev_aload_n dX2_isFull_0 rfl rfl ?_
  refine ev_getfield dX2_isFull_1 fl_X2_9 (by first | assumption | omega) rfl ?_
  refine ev_bipush (v := nI 40) dX2_isFull_4 rfl ?_
  first | ((with_reducible show eV _ _ _ (Value.int (nI _) :: Value.int (nI _) :: _) _ _ _ _); refine ev_icmp_ltN (tgt := 13) dX2_isFull_6 (by decide) (by first | exact hB _ _ | omega) (by first | exact hB _ _ | omega) (fun c_6 => ?_) (fun c_6 => ?_)) | ((with_reducible show eV _ _ _ (Value.int (nI _) :: _) _ _ _ _); refine ev_icmp_ltZN (tgt := 13) dX2_isFull_6 (by decide) (by first | exact hB _ _ | omega) (fun c_6 => ?_) (fun c_6 => ?_)) | ((with_reducible show eV _ _ _ (_ :: Value.int (nI _) :: _) _ _ _ _); refine ev_icmp_ltNZ (tgt := 13) dX2_isFull_6 (by decide) (by first | exact hB _ _ | omega) (fun c_6 => ?_) (fun c_6 => ?_)) | (refine ev_icmp_ltZZ (tgt := 13) dX2_isFull_6 (by decide) (fun c_6 => ?_) (fun c_6 => ?_))
  · refine ev_iconst (v := nI 0) dX2_isFull_13 rfl ?_
    exact ev_iret dX2_isFull_14 rfl (by first | rfl | exact bI_n _) (by first | exact bR0 (by simp only [bI, Bool.and_eq_true, Bool.and_eq_false_iff, Bool.or_eq_true, Bool.or_eq_false_iff, decide_eq_true_eq, decide_eq_false_iff_not, ne_eq]; omega) | exact bR1 (by simp only [bI, Bool.and_eq_true, Bool.and_eq_false_iff, Bool.or_eq_true, Bool.or_eq_false_iff, decide_eq_true_eq, decide_eq_false_iff_not, ne_eq]; omega) | exact bR0 (by simp [bI, *]; done) | exact bR1 (by simp [bI, *]; done)) (by rfl) (fun _ e => Option.some.inj e) (Nat.le_of_ble_eq_true rfl) (Nat.le_of_ble_eq_true rfl)
  · refine ev_iconst (v := nI 1) dX2_isFull_9 rfl ?_
    refine ev_goto (tgt := 14) dX2_isFull_10 (by decide) ?_
    exact ev_iret dX2_isFull_14 rfl (by first | rfl | exact bI_n _) (by first | exact bR0 (by simp only [bI, Bool.and_eq_true, Bool.and_eq_false_iff, Bool.or_eq_true, Bool.or_eq_false_iff, decide_eq_true_eq, decide_eq_false_iff_not, ne_eq]; omega) | exact bR1 (by simp only [bI, Bool.and_eq_true, Bool.and_eq_false_iff, Bool.or_eq_true, Bool.or_eq_false_iff, decide_eq_true_eq, decide_eq_false_iff_not, ne_eq]; omega) | exact bR0 (by simp [bI, *]; done) | exact bR1 (by simp [bI, *]; done)) (by rfl) (fun _ e => Option.some.inj e) (Nat.le_of_ble_eq_true rfl) (Nat.le_of_ble_eq_true rfl)
set_option maxHeartbeats 4000000 in
set_option maxRecDepth 20000 in
theorem c_X2_inState {h : eH} {n q : Nat} {σ : St} (hN : eNm h q σ) (hB : eB σ) {t : Nat} (ht : t < 2 ^ 31) : kX2_inState [.ref q, .int (nI t)] h n (.inl (some (.int (nI (sInState σ t)))), (· = h), some n) 0 0 := by
  refine eM.of RX2 "inState" [(0, .ref q), (1, .int (nI t))] pn_X2 rfl rfl (Nat.le_of_ble_eq_true rfl) rfl ?_
  have hm := hN.2.1.1
  obtain ⟨h0, h1, h2, h3, h4, h5, h6, h7, h8, h9⟩ := hN
  refine ev_iconst (v := nI 0) dX2_inState_0 rfl ?_
  refine ev_istore_n dX2_inState_1 rfl (Nat.le_of_ble_eq_true rfl) ?_
  refine ev_iconst (v := nI 0) dX2_inState_2 rfl ?_
  refine ev_istore_n dX2_inState_3 rfl (Nat.le_of_ble_eq_true rfl) ?_
  have H_4 : ∀ (d_4 : Nat) (k f : Nat), d_4 = σ 0 1 - k → (k ≤ σ 0 1) → (f = cnt (fun k => decide (σ 12 k = t)) k) → eV mX2_inState 4 [(0, .ref q), (1, .int (nI t)), (2, .int (nI f)), (3, .int (nI k))] [] (h, n, 0, 0) (.inl (some (.int (nI (sInState σ t)))), (· = h), some n) 0 0 := by
    intro d_4
    induction d_4 using Nat.strongRecOn with
    | _ d_4 ih_4 =>
    intro k f hd_4 hk hf
    refine ev_iload_n dX2_inState_4 rfl rfl ?_
    refine ev_aload_n dX2_inState_5 rfl rfl ?_
    refine ev_getfield dX2_inState_6 fl_X2_9 (by first | assumption | omega) rfl ?_
    first | ((with_reducible show eV _ _ _ (Value.int (nI _) :: Value.int (nI _) :: _) _ _ _ _); refine ev_icmp_geN (tgt := 31) dX2_inState_9 (by decide) (by first | exact hB _ _ | omega) (by first | exact hB _ _ | omega) (fun c_9 => ?_) (fun c_9 => ?_)) | ((with_reducible show eV _ _ _ (Value.int (nI _) :: _) _ _ _ _); refine ev_icmp_geZN (tgt := 31) dX2_inState_9 (by decide) (by first | exact hB _ _ | omega) (fun c_9 => ?_) (fun c_9 => ?_)) | ((with_reducible show eV _ _ _ (_ :: Value.int (nI _) :: _) _ _ _ _); refine ev_icmp_geNZ (tgt := 31) dX2_inState_9 (by decide) (by first | exact hB _ _ | omega) (fun c_9 => ?_) (fun c_9 => ?_)) | (refine ev_icmp_geZZ (tgt := 31) dX2_inState_9 (by decide) (fun c_9 => ?_) (fun c_9 => ?_))
    · refine ev_iload_n dX2_inState_31 rfl rfl ?_
      exact ev_iret dX2_inState_32 rfl rfl (by exact nR (by have e : k = σ 0 1 := (by omega); rw [sInState, hf, ← e])) (by rfl) (fun _ e => Option.some.inj e) (Nat.le_of_ble_eq_true rfl) (Nat.le_of_ble_eq_true rfl)
    · refine ev_aload_n dX2_inState_12 rfl rfl ?_
      refine ev_getfield dX2_inState_13 fl_X2_34 (by first | assumption | omega) rfl ?_
      refine ev_iload_n dX2_inState_16 rfl rfl ?_
      refine ev_ialoadA dX2_inState_17 (by first | assumption | omega) (by first | assumption | omega) ?_
      refine ev_iload_n dX2_inState_18 rfl rfl ?_
      first | ((with_reducible show eV _ _ _ (Value.int (nI _) :: Value.int (nI _) :: _) _ _ _ _); refine ev_icmp_neN (tgt := 25) dX2_inState_19 (by decide) (by first | exact hB _ _ | omega) (by first | exact hB _ _ | omega) (fun c_19 => ?_) (fun c_19 => ?_)) | ((with_reducible show eV _ _ _ (Value.int (-1) :: Value.int (oI _) :: _) _ _ _ _); refine ev_icmp_neO (tgt := 25) dX2_inState_19 (by decide) (by first | assumption | (intro k9 h9; exact absurd h9 (by simp)) | (intro k9 h9; have := (fst_lt h9).1; omega) | (intro k9 h9; cases h9; omega)) (fun c_19 => ?_) (fun c_19 => ?_)) | ((with_reducible show eV _ _ _ (Value.int (nI _) :: _) _ _ _ _); refine ev_icmp_neZN (tgt := 25) dX2_inState_19 (by decide) (by first | exact hB _ _ | omega) (fun c_19 => ?_) (fun c_19 => ?_)) | ((with_reducible show eV _ _ _ (_ :: Value.int (nI _) :: _) _ _ _ _); refine ev_icmp_neNZ (tgt := 25) dX2_inState_19 (by decide) (by first | exact hB _ _ | omega) (fun c_19 => ?_) (fun c_19 => ?_)) | (refine ev_icmp_neZZ (tgt := 25) dX2_inState_19 (by decide) (fun c_19 => ?_) (fun c_19 => ?_))
      · first | refine ev_iincN dX2_inState_25 rfl (Nat.le_of_ble_eq_true rfl) ?_ | refine ev_iinc dX2_inState_25 rfl rfl (Nat.le_of_ble_eq_true rfl) ?_
        refine ev_goto (tgt := 4) dX2_inState_28 (by decide) ?_
        exact (ih_4 _ (by omega) _ _  rfl (by first | omega | assumption | rfl) (by first | (rw [cnt_f (by simp only [decide_eq_false_iff_not]; omega)]; exact hf) | (rw [cnt_t (by simp only [decide_eq_true_eq]; omega), ← hf]))).sub1 ⟨rfl, rfl, rfl, rfl, trivial⟩ rfl
      · first | refine ev_iincN dX2_inState_22 rfl (Nat.le_of_ble_eq_true rfl) ?_ | refine ev_iinc dX2_inState_22 rfl rfl (Nat.le_of_ble_eq_true rfl) ?_
        first | refine ev_iincN dX2_inState_25 rfl (Nat.le_of_ble_eq_true rfl) ?_ | refine ev_iinc dX2_inState_25 rfl rfl (Nat.le_of_ble_eq_true rfl) ?_
        refine ev_goto (tgt := 4) dX2_inState_28 (by decide) ?_
        exact (ih_4 _ (by omega) _ _  rfl (by first | omega | assumption | rfl) (by first | (rw [cnt_f (by simp only [decide_eq_false_iff_not]; omega)]; exact hf) | (rw [cnt_t (by simp only [decide_eq_true_eq]; omega), ← hf]))).sub1 ⟨rfl, rfl, rfl, rfl, trivial⟩ rfl
  exact (H_4 _ 0 0 rfl (by first | omega | assumption | rfl) (by first | omega | assumption | rfl)).sub1 ⟨rfl, rfl, rfl, rfl, trivial⟩ rfl
set_option maxHeartbeats 4000000 in
set_option maxRecDepth 20000 in
theorem c_X2_alive {h : eH} {n q : Nat} {σ : St} (hN : eNm h q σ) (hB : eB σ) : kX2_alive [.ref q] h n (.inl (some (.int (nI (sInState σ 0 + sInState σ 1)))), (· = h), some n) 0 0 := by
  refine eM.of RX2 "alive" [(0, .ref q)] pn_X2 rfl rfl (Nat.le_of_ble_eq_true rfl) rfl ?_
  obtain ⟨h0, -⟩ := id hN
  refine ev_aload_n dX2_alive_0 rfl rfl ?_
  refine ev_iconst (v := nI 0) dX2_alive_1 rfl ?_
  refine ev_callVi dX2_alive_2 (c_X2_inState (by first | assumption | omega) (by first | assumption | omega) (by first | assumption | omega)) rfl lk_X2_55 (by first | assumption | omega) ⟨Nat.le_of_ble_eq_true rfl, Nat.le_of_ble_eq_true rfl⟩ rfl (Nat.le_of_ble_eq_true rfl) ⟨Nat.le_of_ble_eq_true rfl, Nat.le_of_ble_eq_true rfl⟩ (eRo ?_)
  refine ev_aload_n dX2_alive_5 rfl rfl ?_
  refine ev_iconst (v := nI 1) dX2_alive_6 rfl ?_
  refine ev_callVi dX2_alive_7 (c_X2_inState (by first | assumption | omega) (by first | assumption | omega) (by first | assumption | omega)) rfl lk_X2_55 (by first | assumption | omega) ⟨Nat.le_of_ble_eq_true rfl, Nat.le_of_ble_eq_true rfl⟩ rfl (Nat.le_of_ble_eq_true rfl) ⟨Nat.le_of_ble_eq_true rfl, Nat.le_of_ble_eq_true rfl⟩ (eRo ?_)
  first | refine ev_iaddN dX2_alive_10 ?_ | refine ev_iadd dX2_alive_10 ?_
  exact ev_iret dX2_alive_11 rfl rfl (by rfl) (by rfl) (fun _ e => Option.some.inj e) (Nat.le_of_ble_eq_true rfl) (Nat.le_of_ble_eq_true rfl)
set_option maxHeartbeats 4000000 in
set_option maxRecDepth 20000 in
theorem c_X2_usesTogether {h : eH} {n q : Nat} {σ : St} (hN : eNm h q σ) (hB : eB σ) : kX2_usesTogether [.ref q] h n (.inl (some (.int (nI (sSum (σ 10) (σ 0 1))))), (· = h), some n) 0 0 := by
  refine eM.of RX2 "usesTogether" [(0, .ref q)] pn_X2 rfl rfl (Nat.le_of_ble_eq_true rfl) rfl ?_
  have hm := hN.2.1.1
  obtain ⟨h0, h1, h2, h3, h4, h5, h6, h7, h8, h9⟩ := hN
  refine ev_iconst (v := nI 0) dX2_usesTogether_0 rfl ?_
  refine ev_istore_n dX2_usesTogether_1 rfl (Nat.le_of_ble_eq_true rfl) ?_
  refine ev_iconst (v := nI 0) dX2_usesTogether_2 rfl ?_
  refine ev_istore_n dX2_usesTogether_3 rfl (Nat.le_of_ble_eq_true rfl) ?_
  have H_4 : ∀ (d_4 : Nat) (k f : Nat), d_4 = σ 0 1 - k → (k ≤ σ 0 1) → (f = sSum (σ 10) k) → eV mX2_usesTogether 4 [(0, .ref q), (1, .int (nI f)), (2, .int (nI k))] [] (h, n, 0, 0) (.inl (some (.int (nI (sSum (σ 10) (σ 0 1))))), (· = h), some n) 0 0 := by
    intro d_4
    induction d_4 using Nat.strongRecOn with
    | _ d_4 ih_4 =>
    intro k f hd_4 hk hf
    refine ev_iload_n dX2_usesTogether_4 rfl rfl ?_
    refine ev_aload_n dX2_usesTogether_5 rfl rfl ?_
    refine ev_getfield dX2_usesTogether_6 fl_X2_9 (by first | assumption | omega) rfl ?_
    first | ((with_reducible show eV _ _ _ (Value.int (nI _) :: Value.int (nI _) :: _) _ _ _ _); refine ev_icmp_geN (tgt := 27) dX2_usesTogether_9 (by decide) (by first | exact hB _ _ | omega) (by first | exact hB _ _ | omega) (fun c_9 => ?_) (fun c_9 => ?_)) | ((with_reducible show eV _ _ _ (Value.int (nI _) :: _) _ _ _ _); refine ev_icmp_geZN (tgt := 27) dX2_usesTogether_9 (by decide) (by first | exact hB _ _ | omega) (fun c_9 => ?_) (fun c_9 => ?_)) | ((with_reducible show eV _ _ _ (_ :: Value.int (nI _) :: _) _ _ _ _); refine ev_icmp_geNZ (tgt := 27) dX2_usesTogether_9 (by decide) (by first | exact hB _ _ | omega) (fun c_9 => ?_) (fun c_9 => ?_)) | (refine ev_icmp_geZZ (tgt := 27) dX2_usesTogether_9 (by decide) (fun c_9 => ?_) (fun c_9 => ?_))
    · refine ev_iload_n dX2_usesTogether_27 rfl rfl ?_
      exact ev_iret dX2_usesTogether_28 rfl rfl (by exact nR (by have e : k = σ 0 1 := (by omega); rw [hf, ← e])) (by rfl) (fun _ e => Option.some.inj e) (Nat.le_of_ble_eq_true rfl) (Nat.le_of_ble_eq_true rfl)
    · refine ev_iload_n dX2_usesTogether_12 rfl rfl ?_
      refine ev_aload_n dX2_usesTogether_13 rfl rfl ?_
      refine ev_getfield dX2_usesTogether_14 fl_X2_28 (by first | assumption | omega) rfl ?_
      refine ev_iload_n dX2_usesTogether_17 rfl rfl ?_
      refine ev_ialoadA dX2_usesTogether_18 (by first | assumption | omega) (by first | assumption | omega) ?_
      first | refine ev_iaddN dX2_usesTogether_19 ?_ | refine ev_iadd dX2_usesTogether_19 ?_
      refine ev_istore_n dX2_usesTogether_20 rfl (Nat.le_of_ble_eq_true rfl) ?_
      first | refine ev_iincN dX2_usesTogether_21 rfl (Nat.le_of_ble_eq_true rfl) ?_ | refine ev_iinc dX2_usesTogether_21 rfl rfl (Nat.le_of_ble_eq_true rfl) ?_
      refine ev_goto (tgt := 4) dX2_usesTogether_24 (by decide) ?_
      exact (ih_4 _ (by omega) _ _  rfl (by first | omega | assumption | rfl) (by rw [sSum, ← hf])).sub1 ⟨rfl, rfl, rfl, trivial⟩ rfl
  exact (H_4 _ 0 0 rfl (by first | omega | assumption | rfl) (by first | omega | assumption | rfl)).sub1 ⟨rfl, rfl, rfl, trivial⟩ rfl
set_option maxHeartbeats 4000000 in
set_option maxRecDepth 20000 in
theorem c_X2_givenBy {h : eH} {n q : Nat} {σ : St} (hN : eNm h q σ) (hB : eB σ) {p : Nat} (hp : p < 2 ^ 31) : kX2_givenBy [.ref q, .int (nI p)] h n (.inl (some (.int (nI (sGiven σ p)))), (· = h), some n) 0 0 := by
  refine eM.of RX2 "givenBy" [(0, .ref q), (1, .int (nI p))] pn_X2 rfl rfl (Nat.le_of_ble_eq_true rfl) rfl ?_
  have hm := hN.2.1.1
  obtain ⟨h0, h1, h2, h3, h4, h5, h6, h7, h8, h9⟩ := hN
  refine ev_iconst (v := nI 0) dX2_givenBy_0 rfl ?_
  refine ev_istore_n dX2_givenBy_1 rfl (Nat.le_of_ble_eq_true rfl) ?_
  refine ev_iconst (v := nI 0) dX2_givenBy_2 rfl ?_
  refine ev_istore_n dX2_givenBy_3 rfl (Nat.le_of_ble_eq_true rfl) ?_
  have H_4 : ∀ (d_4 : Nat) (k f : Nat), d_4 = σ 0 1 - k → (k ≤ σ 0 1) → (f = cnt (fun k => decide (σ 8 k = p)) k) → eV mX2_givenBy 4 [(0, .ref q), (1, .int (nI p)), (2, .int (nI f)), (3, .int (nI k))] [] (h, n, 0, 0) (.inl (some (.int (nI (sGiven σ p)))), (· = h), some n) 0 0 := by
    intro d_4
    induction d_4 using Nat.strongRecOn with
    | _ d_4 ih_4 =>
    intro k f hd_4 hk hf
    refine ev_iload_n dX2_givenBy_4 rfl rfl ?_
    refine ev_aload_n dX2_givenBy_5 rfl rfl ?_
    refine ev_getfield dX2_givenBy_6 fl_X2_9 (by first | assumption | omega) rfl ?_
    first | ((with_reducible show eV _ _ _ (Value.int (nI _) :: Value.int (nI _) :: _) _ _ _ _); refine ev_icmp_geN (tgt := 31) dX2_givenBy_9 (by decide) (by first | exact hB _ _ | omega) (by first | exact hB _ _ | omega) (fun c_9 => ?_) (fun c_9 => ?_)) | ((with_reducible show eV _ _ _ (Value.int (nI _) :: _) _ _ _ _); refine ev_icmp_geZN (tgt := 31) dX2_givenBy_9 (by decide) (by first | exact hB _ _ | omega) (fun c_9 => ?_) (fun c_9 => ?_)) | ((with_reducible show eV _ _ _ (_ :: Value.int (nI _) :: _) _ _ _ _); refine ev_icmp_geNZ (tgt := 31) dX2_givenBy_9 (by decide) (by first | exact hB _ _ | omega) (fun c_9 => ?_) (fun c_9 => ?_)) | (refine ev_icmp_geZZ (tgt := 31) dX2_givenBy_9 (by decide) (fun c_9 => ?_) (fun c_9 => ?_))
    · refine ev_iload_n dX2_givenBy_31 rfl rfl ?_
      exact ev_iret dX2_givenBy_32 rfl rfl (by exact nR (by have e : k = σ 0 1 := (by omega); rw [sGiven, hf, ← e])) (by rfl) (fun _ e => Option.some.inj e) (Nat.le_of_ble_eq_true rfl) (Nat.le_of_ble_eq_true rfl)
    · refine ev_aload_n dX2_givenBy_12 rfl rfl ?_
      refine ev_getfield dX2_givenBy_13 fl_X2_22 (by first | assumption | omega) rfl ?_
      refine ev_iload_n dX2_givenBy_16 rfl rfl ?_
      refine ev_ialoadA dX2_givenBy_17 (by first | assumption | omega) (by first | assumption | omega) ?_
      refine ev_iload_n dX2_givenBy_18 rfl rfl ?_
      first | ((with_reducible show eV _ _ _ (Value.int (nI _) :: Value.int (nI _) :: _) _ _ _ _); refine ev_icmp_neN (tgt := 25) dX2_givenBy_19 (by decide) (by first | exact hB _ _ | omega) (by first | exact hB _ _ | omega) (fun c_19 => ?_) (fun c_19 => ?_)) | ((with_reducible show eV _ _ _ (Value.int (-1) :: Value.int (oI _) :: _) _ _ _ _); refine ev_icmp_neO (tgt := 25) dX2_givenBy_19 (by decide) (by first | assumption | (intro k9 h9; exact absurd h9 (by simp)) | (intro k9 h9; have := (fst_lt h9).1; omega) | (intro k9 h9; cases h9; omega)) (fun c_19 => ?_) (fun c_19 => ?_)) | ((with_reducible show eV _ _ _ (Value.int (nI _) :: _) _ _ _ _); refine ev_icmp_neZN (tgt := 25) dX2_givenBy_19 (by decide) (by first | exact hB _ _ | omega) (fun c_19 => ?_) (fun c_19 => ?_)) | ((with_reducible show eV _ _ _ (_ :: Value.int (nI _) :: _) _ _ _ _); refine ev_icmp_neNZ (tgt := 25) dX2_givenBy_19 (by decide) (by first | exact hB _ _ | omega) (fun c_19 => ?_) (fun c_19 => ?_)) | (refine ev_icmp_neZZ (tgt := 25) dX2_givenBy_19 (by decide) (fun c_19 => ?_) (fun c_19 => ?_))
      · first | refine ev_iincN dX2_givenBy_25 rfl (Nat.le_of_ble_eq_true rfl) ?_ | refine ev_iinc dX2_givenBy_25 rfl rfl (Nat.le_of_ble_eq_true rfl) ?_
        refine ev_goto (tgt := 4) dX2_givenBy_28 (by decide) ?_
        exact (ih_4 _ (by omega) _ _  rfl (by first | omega | assumption | rfl) (by first | (rw [cnt_f (by simp only [decide_eq_false_iff_not]; omega)]; exact hf) | (rw [cnt_t (by simp only [decide_eq_true_eq]; omega), ← hf]))).sub1 ⟨rfl, rfl, rfl, rfl, trivial⟩ rfl
      · first | refine ev_iincN dX2_givenBy_22 rfl (Nat.le_of_ble_eq_true rfl) ?_ | refine ev_iinc dX2_givenBy_22 rfl rfl (Nat.le_of_ble_eq_true rfl) ?_
        first | refine ev_iincN dX2_givenBy_25 rfl (Nat.le_of_ble_eq_true rfl) ?_ | refine ev_iinc dX2_givenBy_25 rfl rfl (Nat.le_of_ble_eq_true rfl) ?_
        refine ev_goto (tgt := 4) dX2_givenBy_28 (by decide) ?_
        exact (ih_4 _ (by omega) _ _  rfl (by first | omega | assumption | rfl) (by first | (rw [cnt_f (by simp only [decide_eq_false_iff_not]; omega)]; exact hf) | (rw [cnt_t (by simp only [decide_eq_true_eq]; omega), ← hf]))).sub1 ⟨rfl, rfl, rfl, rfl, trivial⟩ rfl
  exact (H_4 _ 0 0 rfl (by first | omega | assumption | rfl) (by first | omega | assumption | rfl)).sub1 ⟨rfl, rfl, rfl, rfl, trivial⟩ rfl
set_option maxHeartbeats 4000000 in
set_option maxRecDepth 20000 in
theorem c_X2_stuckGivenBy {h : eH} {n q : Nat} {σ : St} (hN : eNm h q σ) (hB : eB σ) {p : Nat} (hp : p < 2 ^ 31) : kX2_stuckGivenBy [.ref q, .int (nI p)] h n (.inl (some (.int (nI (sStuckG σ p)))), (· = h), some n) 0 0 := by
  refine eM.of RX2 "stuckGivenBy" [(0, .ref q), (1, .int (nI p))] pn_X2 rfl rfl (Nat.le_of_ble_eq_true rfl) rfl ?_
  have hm := hN.2.1.1
  obtain ⟨h0, h1, h2, h3, h4, h5, h6, h7, h8, h9⟩ := hN
  refine ev_iconst (v := nI 0) dX2_stuckGivenBy_0 rfl ?_
  refine ev_istore_n dX2_stuckGivenBy_1 rfl (Nat.le_of_ble_eq_true rfl) ?_
  refine ev_iconst (v := nI 0) dX2_stuckGivenBy_2 rfl ?_
  refine ev_istore_n dX2_stuckGivenBy_3 rfl (Nat.le_of_ble_eq_true rfl) ?_
  have H_4 : ∀ (d_4 : Nat) (k f : Nat), d_4 = σ 0 1 - k → (k ≤ σ 0 1) → (f = cnt (fun k => decide (σ 8 k = p) && decide (σ 13 k ≠ 0)) k) → eV mX2_stuckGivenBy 4 [(0, .ref q), (1, .int (nI p)), (2, .int (nI f)), (3, .int (nI k))] [] (h, n, 0, 0) (.inl (some (.int (nI (sStuckG σ p)))), (· = h), some n) 0 0 := by
    intro d_4
    induction d_4 using Nat.strongRecOn with
    | _ d_4 ih_4 =>
    intro k f hd_4 hk hf
    refine ev_iload_n dX2_stuckGivenBy_4 rfl rfl ?_
    refine ev_aload_n dX2_stuckGivenBy_5 rfl rfl ?_
    refine ev_getfield dX2_stuckGivenBy_6 fl_X2_9 (by first | assumption | omega) rfl ?_
    first | ((with_reducible show eV _ _ _ (Value.int (nI _) :: Value.int (nI _) :: _) _ _ _ _); refine ev_icmp_geN (tgt := 40) dX2_stuckGivenBy_9 (by decide) (by first | exact hB _ _ | omega) (by first | exact hB _ _ | omega) (fun c_9 => ?_) (fun c_9 => ?_)) | ((with_reducible show eV _ _ _ (Value.int (nI _) :: _) _ _ _ _); refine ev_icmp_geZN (tgt := 40) dX2_stuckGivenBy_9 (by decide) (by first | exact hB _ _ | omega) (fun c_9 => ?_) (fun c_9 => ?_)) | ((with_reducible show eV _ _ _ (_ :: Value.int (nI _) :: _) _ _ _ _); refine ev_icmp_geNZ (tgt := 40) dX2_stuckGivenBy_9 (by decide) (by first | exact hB _ _ | omega) (fun c_9 => ?_) (fun c_9 => ?_)) | (refine ev_icmp_geZZ (tgt := 40) dX2_stuckGivenBy_9 (by decide) (fun c_9 => ?_) (fun c_9 => ?_))
    · refine ev_iload_n dX2_stuckGivenBy_40 rfl rfl ?_
      exact ev_iret dX2_stuckGivenBy_41 rfl rfl (by exact nR (by have e : k = σ 0 1 := (by omega); rw [sStuckG, hf, ← e])) (by rfl) (fun _ e => Option.some.inj e) (Nat.le_of_ble_eq_true rfl) (Nat.le_of_ble_eq_true rfl)
    · refine ev_aload_n dX2_stuckGivenBy_12 rfl rfl ?_
      refine ev_getfield dX2_stuckGivenBy_13 fl_X2_22 (by first | assumption | omega) rfl ?_
      refine ev_iload_n dX2_stuckGivenBy_16 rfl rfl ?_
      refine ev_ialoadA dX2_stuckGivenBy_17 (by first | assumption | omega) (by first | assumption | omega) ?_
      refine ev_iload_n dX2_stuckGivenBy_18 rfl rfl ?_
      first | ((with_reducible show eV _ _ _ (Value.int (nI _) :: Value.int (nI _) :: _) _ _ _ _); refine ev_icmp_neN (tgt := 34) dX2_stuckGivenBy_19 (by decide) (by first | exact hB _ _ | omega) (by first | exact hB _ _ | omega) (fun c_19 => ?_) (fun c_19 => ?_)) | ((with_reducible show eV _ _ _ (Value.int (-1) :: Value.int (oI _) :: _) _ _ _ _); refine ev_icmp_neO (tgt := 34) dX2_stuckGivenBy_19 (by decide) (by first | assumption | (intro k9 h9; exact absurd h9 (by simp)) | (intro k9 h9; have := (fst_lt h9).1; omega) | (intro k9 h9; cases h9; omega)) (fun c_19 => ?_) (fun c_19 => ?_)) | ((with_reducible show eV _ _ _ (Value.int (nI _) :: _) _ _ _ _); refine ev_icmp_neZN (tgt := 34) dX2_stuckGivenBy_19 (by decide) (by first | exact hB _ _ | omega) (fun c_19 => ?_) (fun c_19 => ?_)) | ((with_reducible show eV _ _ _ (_ :: Value.int (nI _) :: _) _ _ _ _); refine ev_icmp_neNZ (tgt := 34) dX2_stuckGivenBy_19 (by decide) (by first | exact hB _ _ | omega) (fun c_19 => ?_) (fun c_19 => ?_)) | (refine ev_icmp_neZZ (tgt := 34) dX2_stuckGivenBy_19 (by decide) (fun c_19 => ?_) (fun c_19 => ?_))
      · first | refine ev_iincN dX2_stuckGivenBy_34 rfl (Nat.le_of_ble_eq_true rfl) ?_ | refine ev_iinc dX2_stuckGivenBy_34 rfl rfl (Nat.le_of_ble_eq_true rfl) ?_
        refine ev_goto (tgt := 4) dX2_stuckGivenBy_37 (by decide) ?_
        exact (ih_4 _ (by omega) _ _  rfl (by first | omega | assumption | rfl) (by first | (rw [cnt_f (by simp only [Bool.and_eq_false_iff, decide_eq_false_iff_not]; omega)]; exact hf) | (rw [cnt_t (by simp only [Bool.and_eq_true, decide_eq_true_eq]; omega), ← hf]))).sub1 ⟨rfl, rfl, rfl, rfl, trivial⟩ rfl
      · refine ev_aload_n dX2_stuckGivenBy_22 rfl rfl ?_
        refine ev_getfield dX2_stuckGivenBy_23 fl_X2_37 (by first | assumption | omega) rfl ?_
        refine ev_iload_n dX2_stuckGivenBy_26 rfl rfl ?_
        refine ev_baloadA dX2_stuckGivenBy_27 (by first | assumption | omega) (by first | assumption | omega) ?_
        first | ((with_reducible show eV _ _ _ (Value.int (bI _) :: _) _ _ _ _); refine ev_if_eqB (tgt := 34) dX2_stuckGivenBy_28 (by decide) (fun c_28 => ?_) (fun c_28 => ?_)) | ((with_reducible show eV _ _ _ (Value.int (nI _) :: _) _ _ _ _); refine ev_if_eqN (tgt := 34) dX2_stuckGivenBy_28 (by decide) (by first | exact hB _ _ | omega) (fun c_28 => ?_) (fun c_28 => ?_)) | (refine ev_if_eqZ (tgt := 34) dX2_stuckGivenBy_28 (by decide) (fun c_28 => ?_) (fun c_28 => ?_))
        · first | refine ev_iincN dX2_stuckGivenBy_34 rfl (Nat.le_of_ble_eq_true rfl) ?_ | refine ev_iinc dX2_stuckGivenBy_34 rfl rfl (Nat.le_of_ble_eq_true rfl) ?_
          refine ev_goto (tgt := 4) dX2_stuckGivenBy_37 (by decide) ?_
          exact (ih_4 _ (by omega) _ _  rfl (by first | omega | assumption | rfl) (by first | (rw [cnt_f (by simp only [Bool.and_eq_false_iff, decide_eq_false_iff_not]; omega)]; exact hf) | (rw [cnt_t (by simp only [Bool.and_eq_true, decide_eq_true_eq]; omega), ← hf]))).sub1 ⟨rfl, rfl, rfl, rfl, trivial⟩ rfl
        · first | refine ev_iincN dX2_stuckGivenBy_31 rfl (Nat.le_of_ble_eq_true rfl) ?_ | refine ev_iinc dX2_stuckGivenBy_31 rfl rfl (Nat.le_of_ble_eq_true rfl) ?_
          first | refine ev_iincN dX2_stuckGivenBy_34 rfl (Nat.le_of_ble_eq_true rfl) ?_ | refine ev_iinc dX2_stuckGivenBy_34 rfl rfl (Nat.le_of_ble_eq_true rfl) ?_
          refine ev_goto (tgt := 4) dX2_stuckGivenBy_37 (by decide) ?_
          exact (ih_4 _ (by omega) _ _  rfl (by first | omega | assumption | rfl) (by first | (rw [cnt_f (by simp only [Bool.and_eq_false_iff, decide_eq_false_iff_not]; omega)]; exact hf) | (rw [cnt_t (by simp only [Bool.and_eq_true, decide_eq_true_eq]; omega), ← hf]))).sub1 ⟨rfl, rfl, rfl, rfl, trivial⟩ rfl
  exact (H_4 _ 0 0 rfl (by first | omega | assumption | rfl) (by first | omega | assumption | rfl)).sub1 ⟨rfl, rfl, rfl, rfl, trivial⟩ rfl
set_option maxHeartbeats 4000000 in
set_option maxRecDepth 20000 in
theorem c_X2_sticksBetter {h : eH} {n q : Nat} {σ : St} (hN : eNm h q σ) (hB : eB σ) {p o : Nat} (hp : p < 2 ^ 31) (ho : o < 2 ^ 31) : kX2_sticksBetter [.ref q, .int (nI p), .int (nI o)] h n (.inl (some (.int (bI (decide (sStuckG σ o * sGiven σ p < sStuckG σ p * sGiven σ o ∨ (sStuckG σ p * sGiven σ o = sStuckG σ o * sGiven σ p ∧ sGiven σ o < sGiven σ p)))))), (· = h), some n) 0 0 := by
  refine eM.of RX2 "sticksBetter" [(0, .ref q), (1, .int (nI p)), (2, .int (nI o))] pn_X2 rfl rfl (Nat.le_of_ble_eq_true rfl) rfl ?_
  have hm := hN.2.1.1
  obtain ⟨h0, -⟩ := id hN
  have b1 : sGiven σ p ≤ 40 := Nat.le_trans (cnt_le _ _) hm
  have b2 : sGiven σ o ≤ 40 := Nat.le_trans (cnt_le _ _) hm
  have b3 : sStuckG σ p ≤ 40 := Nat.le_trans (cnt_le _ _) hm
  have b4 : sStuckG σ o ≤ 40 := Nat.le_trans (cnt_le _ _) hm
  have b5 : sStuckG σ p * sGiven σ o ≤ 40 * 40 := Nat.mul_le_mul b3 b2
  have b6 : sStuckG σ o * sGiven σ p ≤ 40 * 40 := Nat.mul_le_mul b4 b1
  refine ev_aload_n dX2_sticksBetter_0 rfl rfl ?_
  refine ev_iload_n dX2_sticksBetter_1 rfl rfl ?_
  refine ev_callVi dX2_sticksBetter_2 (c_X2_stuckGivenBy (by first | assumption | omega) (by first | assumption | omega) (by first | assumption | omega)) rfl lk_X2_59 (by first | assumption | omega) ⟨Nat.le_of_ble_eq_true rfl, Nat.le_of_ble_eq_true rfl⟩ rfl (Nat.le_of_ble_eq_true rfl) ⟨Nat.le_of_ble_eq_true rfl, Nat.le_of_ble_eq_true rfl⟩ (eRo ?_)
  refine ev_aload_n dX2_sticksBetter_5 rfl rfl ?_
  refine ev_iload_n dX2_sticksBetter_6 rfl rfl ?_
  refine ev_callVi dX2_sticksBetter_7 (c_X2_givenBy (by first | assumption | omega) (by first | assumption | omega) (by first | assumption | omega)) rfl lk_X2_62 (by first | assumption | omega) ⟨Nat.le_of_ble_eq_true rfl, Nat.le_of_ble_eq_true rfl⟩ rfl (Nat.le_of_ble_eq_true rfl) ⟨Nat.le_of_ble_eq_true rfl, Nat.le_of_ble_eq_true rfl⟩ (eRo ?_)
  first | refine ev_imulN dX2_sticksBetter_10 ?_ | refine ev_imul dX2_sticksBetter_10 ?_
  refine ev_istore_n dX2_sticksBetter_11 rfl (Nat.le_of_ble_eq_true rfl) ?_
  refine ev_aload_n dX2_sticksBetter_12 rfl rfl ?_
  refine ev_iload_n dX2_sticksBetter_13 rfl rfl ?_
  refine ev_callVi dX2_sticksBetter_14 (c_X2_stuckGivenBy (by first | assumption | omega) (by first | assumption | omega) (by first | assumption | omega)) rfl lk_X2_59 (by first | assumption | omega) ⟨Nat.le_of_ble_eq_true rfl, Nat.le_of_ble_eq_true rfl⟩ rfl (Nat.le_of_ble_eq_true rfl) ⟨Nat.le_of_ble_eq_true rfl, Nat.le_of_ble_eq_true rfl⟩ (eRo ?_)
  refine ev_aload_n dX2_sticksBetter_17 rfl rfl ?_
  refine ev_iload_n dX2_sticksBetter_18 rfl rfl ?_
  refine ev_callVi dX2_sticksBetter_19 (c_X2_givenBy (by first | assumption | omega) (by first | assumption | omega) (by first | assumption | omega)) rfl lk_X2_62 (by first | assumption | omega) ⟨Nat.le_of_ble_eq_true rfl, Nat.le_of_ble_eq_true rfl⟩ rfl (Nat.le_of_ble_eq_true rfl) ⟨Nat.le_of_ble_eq_true rfl, Nat.le_of_ble_eq_true rfl⟩ (eRo ?_)
  first | refine ev_imulN dX2_sticksBetter_22 ?_ | refine ev_imul dX2_sticksBetter_22 ?_
  refine ev_istore dX2_sticksBetter_23 (Nat.le_of_ble_eq_true rfl) ?_
  refine ev_iload_n dX2_sticksBetter_25 rfl rfl ?_
  refine ev_iload dX2_sticksBetter_26 rfl ?_
  first | ((with_reducible show eV _ _ _ (Value.int (nI _) :: Value.int (nI _) :: _) _ _ _ _); refine ev_icmp_gtN (tgt := 50) dX2_sticksBetter_28 (by decide) (by first | exact hB _ _ | omega) (by first | exact hB _ _ | omega) (fun c_28 => ?_) (fun c_28 => ?_)) | ((with_reducible show eV _ _ _ (Value.int (nI _) :: _) _ _ _ _); refine ev_icmp_gtZN (tgt := 50) dX2_sticksBetter_28 (by decide) (by first | exact hB _ _ | omega) (fun c_28 => ?_) (fun c_28 => ?_)) | ((with_reducible show eV _ _ _ (_ :: Value.int (nI _) :: _) _ _ _ _); refine ev_icmp_gtNZ (tgt := 50) dX2_sticksBetter_28 (by decide) (by first | exact hB _ _ | omega) (fun c_28 => ?_) (fun c_28 => ?_)) | (refine ev_icmp_gtZZ (tgt := 50) dX2_sticksBetter_28 (by decide) (fun c_28 => ?_) (fun c_28 => ?_))
  · refine ev_iconst (v := nI 1) dX2_sticksBetter_50 rfl ?_
    refine ev_goto (tgt := 55) dX2_sticksBetter_51 (by decide) ?_
    exact ev_iret dX2_sticksBetter_55 rfl (by first | rfl | exact bI_n _) (by first | exact bR0 (by simp only [bI, Bool.and_eq_true, Bool.and_eq_false_iff, Bool.or_eq_true, Bool.or_eq_false_iff, decide_eq_true_eq, decide_eq_false_iff_not, ne_eq]; omega) | exact bR1 (by simp only [bI, Bool.and_eq_true, Bool.and_eq_false_iff, Bool.or_eq_true, Bool.or_eq_false_iff, decide_eq_true_eq, decide_eq_false_iff_not, ne_eq]; omega) | exact bR0 (by simp [bI, *]; done) | exact bR1 (by simp [bI, *]; done)) (by rfl) (fun _ e => Option.some.inj e) (Nat.le_of_ble_eq_true rfl) (Nat.le_of_ble_eq_true rfl)
  · refine ev_iload_n dX2_sticksBetter_31 rfl rfl ?_
    refine ev_iload dX2_sticksBetter_32 rfl ?_
    first | ((with_reducible show eV _ _ _ (Value.int (nI _) :: Value.int (nI _) :: _) _ _ _ _); refine ev_icmp_neN (tgt := 54) dX2_sticksBetter_34 (by decide) (by first | exact hB _ _ | omega) (by first | exact hB _ _ | omega) (fun c_34 => ?_) (fun c_34 => ?_)) | ((with_reducible show eV _ _ _ (Value.int (-1) :: Value.int (oI _) :: _) _ _ _ _); refine ev_icmp_neO (tgt := 54) dX2_sticksBetter_34 (by decide) (by first | assumption | (intro k9 h9; exact absurd h9 (by simp)) | (intro k9 h9; have := (fst_lt h9).1; omega) | (intro k9 h9; cases h9; omega)) (fun c_34 => ?_) (fun c_34 => ?_)) | ((with_reducible show eV _ _ _ (Value.int (nI _) :: _) _ _ _ _); refine ev_icmp_neZN (tgt := 54) dX2_sticksBetter_34 (by decide) (by first | exact hB _ _ | omega) (fun c_34 => ?_) (fun c_34 => ?_)) | ((with_reducible show eV _ _ _ (_ :: Value.int (nI _) :: _) _ _ _ _); refine ev_icmp_neNZ (tgt := 54) dX2_sticksBetter_34 (by decide) (by first | exact hB _ _ | omega) (fun c_34 => ?_) (fun c_34 => ?_)) | (refine ev_icmp_neZZ (tgt := 54) dX2_sticksBetter_34 (by decide) (fun c_34 => ?_) (fun c_34 => ?_))
    · refine ev_iconst (v := nI 0) dX2_sticksBetter_54 rfl ?_
      exact ev_iret dX2_sticksBetter_55 rfl (by first | rfl | exact bI_n _) (by first | exact bR0 (by simp only [bI, Bool.and_eq_true, Bool.and_eq_false_iff, Bool.or_eq_true, Bool.or_eq_false_iff, decide_eq_true_eq, decide_eq_false_iff_not, ne_eq]; omega) | exact bR1 (by simp only [bI, Bool.and_eq_true, Bool.and_eq_false_iff, Bool.or_eq_true, Bool.or_eq_false_iff, decide_eq_true_eq, decide_eq_false_iff_not, ne_eq]; omega) | exact bR0 (by simp [bI, *]; done) | exact bR1 (by simp [bI, *]; done)) (by rfl) (fun _ e => Option.some.inj e) (Nat.le_of_ble_eq_true rfl) (Nat.le_of_ble_eq_true rfl)
    · refine ev_aload_n dX2_sticksBetter_37 rfl rfl ?_
      refine ev_iload_n dX2_sticksBetter_38 rfl rfl ?_
      refine ev_callVi dX2_sticksBetter_39 (c_X2_givenBy (by first | assumption | omega) (by first | assumption | omega) (by first | assumption | omega)) rfl lk_X2_62 (by first | assumption | omega) ⟨Nat.le_of_ble_eq_true rfl, Nat.le_of_ble_eq_true rfl⟩ rfl (Nat.le_of_ble_eq_true rfl) ⟨Nat.le_of_ble_eq_true rfl, Nat.le_of_ble_eq_true rfl⟩ (eRo ?_)
      refine ev_aload_n dX2_sticksBetter_42 rfl rfl ?_
      refine ev_iload_n dX2_sticksBetter_43 rfl rfl ?_
      refine ev_callVi dX2_sticksBetter_44 (c_X2_givenBy (by first | assumption | omega) (by first | assumption | omega) (by first | assumption | omega)) rfl lk_X2_62 (by first | assumption | omega) ⟨Nat.le_of_ble_eq_true rfl, Nat.le_of_ble_eq_true rfl⟩ rfl (Nat.le_of_ble_eq_true rfl) ⟨Nat.le_of_ble_eq_true rfl, Nat.le_of_ble_eq_true rfl⟩ (eRo ?_)
      first | ((with_reducible show eV _ _ _ (Value.int (nI _) :: Value.int (nI _) :: _) _ _ _ _); refine ev_icmp_leN (tgt := 54) dX2_sticksBetter_47 (by decide) (by first | exact hB _ _ | omega) (by first | exact hB _ _ | omega) (fun c_47 => ?_) (fun c_47 => ?_)) | ((with_reducible show eV _ _ _ (Value.int (nI _) :: _) _ _ _ _); refine ev_icmp_leZN (tgt := 54) dX2_sticksBetter_47 (by decide) (by first | exact hB _ _ | omega) (fun c_47 => ?_) (fun c_47 => ?_)) | ((with_reducible show eV _ _ _ (_ :: Value.int (nI _) :: _) _ _ _ _); refine ev_icmp_leNZ (tgt := 54) dX2_sticksBetter_47 (by decide) (by first | exact hB _ _ | omega) (fun c_47 => ?_) (fun c_47 => ?_)) | (refine ev_icmp_leZZ (tgt := 54) dX2_sticksBetter_47 (by decide) (fun c_47 => ?_) (fun c_47 => ?_))
      · refine ev_iconst (v := nI 0) dX2_sticksBetter_54 rfl ?_
        exact ev_iret dX2_sticksBetter_55 rfl (by first | rfl | exact bI_n _) (by first | exact bR0 (by simp only [bI, Bool.and_eq_true, Bool.and_eq_false_iff, Bool.or_eq_true, Bool.or_eq_false_iff, decide_eq_true_eq, decide_eq_false_iff_not, ne_eq]; omega) | exact bR1 (by simp only [bI, Bool.and_eq_true, Bool.and_eq_false_iff, Bool.or_eq_true, Bool.or_eq_false_iff, decide_eq_true_eq, decide_eq_false_iff_not, ne_eq]; omega) | exact bR0 (by simp [bI, *]; done) | exact bR1 (by simp [bI, *]; done)) (by rfl) (fun _ e => Option.some.inj e) (Nat.le_of_ble_eq_true rfl) (Nat.le_of_ble_eq_true rfl)
      · refine ev_iconst (v := nI 1) dX2_sticksBetter_50 rfl ?_
        refine ev_goto (tgt := 55) dX2_sticksBetter_51 (by decide) ?_
        exact ev_iret dX2_sticksBetter_55 rfl (by first | rfl | exact bI_n _) (by first | exact bR0 (by simp only [bI, Bool.and_eq_true, Bool.and_eq_false_iff, Bool.or_eq_true, Bool.or_eq_false_iff, decide_eq_true_eq, decide_eq_false_iff_not, ne_eq]; omega) | exact bR1 (by simp only [bI, Bool.and_eq_true, Bool.and_eq_false_iff, Bool.or_eq_true, Bool.or_eq_false_iff, decide_eq_true_eq, decide_eq_false_iff_not, ne_eq]; omega) | exact bR0 (by simp [bI, *]; done) | exact bR1 (by simp [bI, *]; done)) (by rfl) (fun _ e => Option.some.inj e) (Nat.le_of_ble_eq_true rfl) (Nat.le_of_ble_eq_true rfl)
set_option maxHeartbeats 4000000 in
set_option maxRecDepth 20000 in
theorem c_X0_codes {h : eH} {n m : Nat} (hm : m ≤ 4) : kX0_codes [.int (nI m)] h n (.inl (some (.int (nI (26 ^ m)))), (· = h), some n) 0 0 := by
  refine eM.of RX0 "codes" [(0, .int (nI m))] pn_X0 rfl rfl (Nat.le_of_ble_eq_true rfl) rfl ?_
  refine ev_iconst (v := nI 1) dX0_codes_0 rfl ?_
  refine ev_istore_n dX0_codes_1 rfl (Nat.le_of_ble_eq_true rfl) ?_
  refine ev_iconst (v := nI 0) dX0_codes_2 rfl ?_
  refine ev_istore_n dX0_codes_3 rfl (Nat.le_of_ble_eq_true rfl) ?_
  have H_4 : ∀ (d_4 : Nat) (k f : Nat), d_4 = m - k → (k ≤ m) → (f = 26 ^ k) → eV mX0_codes 4 [(0, .int (nI m)), (1, .int (nI f)), (2, .int (nI k))] [] (h, n, 0, 0) (.inl (some (.int (nI (26 ^ m)))), (· = h), some n) 0 0 := by
    intro d_4
    induction d_4 using Nat.strongRecOn with
    | _ d_4 ih_4 =>
    intro k f hd_4 hk hf
    refine ev_iload_n dX0_codes_4 rfl rfl ?_
    refine ev_iload_n dX0_codes_5 rfl rfl ?_
    first | ((with_reducible show eV _ _ _ (Value.int (nI _) :: Value.int (nI _) :: _) _ _ _ _); refine ev_icmp_geN (tgt := 25) dX0_codes_6 (by decide) (by omega) (by omega) (fun c_6 => ?_) (fun c_6 => ?_)) | ((with_reducible show eV _ _ _ (Value.int (nI _) :: _) _ _ _ _); refine ev_icmp_geZN (tgt := 25) dX0_codes_6 (by decide) (by omega) (fun c_6 => ?_) (fun c_6 => ?_)) | ((with_reducible show eV _ _ _ (_ :: Value.int (nI _) :: _) _ _ _ _); refine ev_icmp_geNZ (tgt := 25) dX0_codes_6 (by decide) (by omega) (fun c_6 => ?_) (fun c_6 => ?_)) | (refine ev_icmp_geZZ (tgt := 25) dX0_codes_6 (by decide) (fun c_6 => ?_) (fun c_6 => ?_))
    · refine ev_iload_n dX0_codes_25 rfl rfl ?_
      exact ev_iret dX0_codes_26 rfl rfl (by exact nR (by have e : k = m := (by omega); rw [hf, ← e])) (by rfl) (fun _ e => Option.some.inj e) (Nat.le_of_ble_eq_true rfl) (Nat.le_of_ble_eq_true rfl)
    · refine ev_iload_n dX0_codes_9 rfl rfl ?_
      refine ev_iconst (v := nI 4) dX0_codes_10 rfl ?_
      first | ((with_reducible show eV _ _ _ (Value.int (nI _) :: Value.int (nI _) :: _) _ _ _ _); refine ev_icmp_geN (tgt := 25) dX0_codes_11 (by decide) (by omega) (by omega) (fun c_11 => ?_) (fun c_11 => ?_)) | ((with_reducible show eV _ _ _ (Value.int (nI _) :: _) _ _ _ _); refine ev_icmp_geZN (tgt := 25) dX0_codes_11 (by decide) (by omega) (fun c_11 => ?_) (fun c_11 => ?_)) | ((with_reducible show eV _ _ _ (_ :: Value.int (nI _) :: _) _ _ _ _); refine ev_icmp_geNZ (tgt := 25) dX0_codes_11 (by decide) (by omega) (fun c_11 => ?_) (fun c_11 => ?_)) | (refine ev_icmp_geZZ (tgt := 25) dX0_codes_11 (by decide) (fun c_11 => ?_) (fun c_11 => ?_))
      · refine ev_iload_n dX0_codes_25 rfl rfl ?_
        exact ev_iret dX0_codes_26 rfl rfl (by exact nR (by have e : k = m := (by omega); rw [hf, ← e])) (by rfl) (fun _ e => Option.some.inj e) (Nat.le_of_ble_eq_true rfl) (Nat.le_of_ble_eq_true rfl)
      · refine ev_iload_n dX0_codes_14 rfl rfl ?_
        refine ev_bipush (v := nI 26) dX0_codes_15 rfl ?_
        first | refine ev_imulN dX0_codes_17 ?_ | refine ev_imul dX0_codes_17 ?_
        refine ev_istore_n dX0_codes_18 rfl (Nat.le_of_ble_eq_true rfl) ?_
        first | refine ev_iincN dX0_codes_19 rfl (Nat.le_of_ble_eq_true rfl) ?_ | refine ev_iinc dX0_codes_19 rfl rfl (Nat.le_of_ble_eq_true rfl) ?_
        refine ev_goto (tgt := 4) dX0_codes_22 (by decide) ?_
        exact (ih_4 _ (by omega) _ _  rfl (by first | omega | assumption | rfl) (by rw [hf, Nat.pow_succ])).sub1 ⟨rfl, rfl, rfl, trivial⟩ rfl
  exact (H_4 _ 0 1 rfl (by first | omega | assumption | rfl) (by first | omega | assumption | rfl)).sub1 ⟨rfl, rfl, rfl, trivial⟩ rfl
set_option maxHeartbeats 4000000 in
set_option maxRecDepth 20000 in
theorem c_X0_at {h : eH} {n m c p : Nat} (hm : 1 ≤ m ∧ m ≤ 4) (hc : c < 2 ^ 31) (hp : p < m) : kX0_at [.int (nI m), .int (nI c), .int (nI p)] h n (.inl (some (.int (nI (sLet m c p)))), (· = h), some n) 0 0 := by
  refine eM.of RX0 "at" [(0, .int (nI m)), (1, .int (nI c)), (2, .int (nI p))] pn_X0 rfl rfl (Nat.le_of_ble_eq_true rfl) rfl ?_
  refine ev_iload_n dX0_at_0 rfl rfl ?_
  refine ev_istore_n dX0_at_1 rfl (Nat.le_of_ble_eq_true rfl) ?_
  refine ev_iload_n dX0_at_2 rfl rfl ?_
  refine ev_iconst (v := nI 1) dX0_at_3 rfl ?_
  first | refine ev_isubN dX0_at_4 (by first | assumption | omega) ?_ | refine ev_isub dX0_at_4 ?_
  refine ev_istore dX0_at_5 (Nat.le_of_ble_eq_true rfl) ?_
  have H_7 : ∀ (d_7 : Nat) (i f : Nat), d_7 = i - p → (p ≤ i ∧ i ≤ m - 1) → (f = c / 26 ^ (m - 1 - i)) → (f < 2 ^ 31) → eV mX0_at 7 [(0, .int (nI m)), (1, .int (nI c)), (2, .int (nI p)), (3, .int (nI f)), (4, .int (nI i))] [] (h, n, 0, 0) (.inl (some (.int (nI (sLet m c p)))), (· = h), some n) 0 0 := by
    intro d_7
    induction d_7 using Nat.strongRecOn with
    | _ d_7 ih_7 =>
    intro i f hd_7 hi hf hs
    refine ev_iload dX0_at_7 rfl ?_
    refine ev_iload_n dX0_at_9 rfl rfl ?_
    first | ((with_reducible show eV _ _ _ (Value.int (nI _) :: Value.int (nI _) :: _) _ _ _ _); refine ev_icmp_leN (tgt := 24) dX0_at_10 (by decide) (by omega) (by omega) (fun c_10 => ?_) (fun c_10 => ?_)) | ((with_reducible show eV _ _ _ (Value.int (nI _) :: _) _ _ _ _); refine ev_icmp_leZN (tgt := 24) dX0_at_10 (by decide) (by omega) (fun c_10 => ?_) (fun c_10 => ?_)) | ((with_reducible show eV _ _ _ (_ :: Value.int (nI _) :: _) _ _ _ _); refine ev_icmp_leNZ (tgt := 24) dX0_at_10 (by decide) (by omega) (fun c_10 => ?_) (fun c_10 => ?_)) | (refine ev_icmp_leZZ (tgt := 24) dX0_at_10 (by decide) (fun c_10 => ?_) (fun c_10 => ?_))
    · refine ev_iload_n dX0_at_24 rfl rfl ?_
      refine ev_bipush (v := nI 26) dX0_at_25 rfl ?_
      first | refine ev_iremN dX0_at_27 (by omega) (by first | assumption | omega) (by omega) ?_ | refine ev_irem dX0_at_27 (by decide) ?_
      exact ev_iret dX0_at_28 rfl rfl (by exact nR (by have e : i = p := (by omega); rw [sLet, hf, e])) (by rfl) (fun _ e => Option.some.inj e) (Nat.le_of_ble_eq_true rfl) (Nat.le_of_ble_eq_true rfl)
    · obtain ⟨j, rfl⟩ : ∃ j, i = j + 1 := ⟨i - 1, by omega⟩
      refine ev_iload_n dX0_at_13 rfl rfl ?_
      refine ev_bipush (v := nI 26) dX0_at_14 rfl ?_
      first | refine ev_idivN dX0_at_16 (by omega) (by first | assumption | omega) (by omega) ?_ | refine ev_idiv dX0_at_16 (by decide) ?_
      refine ev_istore_n dX0_at_17 rfl (Nat.le_of_ble_eq_true rfl) ?_
      first | refine ev_iincD dX0_at_18 rfl (Nat.le_of_ble_eq_true rfl) ?_ | refine ev_iinc dX0_at_18 rfl rfl (Nat.le_of_ble_eq_true rfl) ?_
      refine ev_goto (tgt := 7) dX0_at_21 (by decide) ?_
      exact (ih_7 _ (by omega) _ _  rfl (by omega) (by have e : m - 1 - j = m - 1 - (j + 1) + 1 := (by omega); rw [hf, Nat.div_div_eq_div_mul, e, Nat.pow_succ]) (by exact Nat.lt_of_le_of_lt (Nat.div_le_self _ _) hs)).sub1 ⟨rfl, rfl, rfl, rfl, rfl, trivial⟩ rfl
  exact (H_7 _ (m - 1) c rfl (by first | omega | assumption | rfl) (by simp) (by first | omega | assumption | rfl)).sub1 ⟨rfl, rfl, rfl, rfl, rfl, trivial⟩ rfl
set_option maxHeartbeats 4000000 in
set_option maxRecDepth 20000 in
theorem c_X0_dictionaryKey {h : eH} {n m c : Nat} (hm : 1 ≤ m ∧ m ≤ 4) (hc : c < 2 ^ 31) : kX0_dictionaryKey [.int (nI m), .int (nI c)] h n (.inl (some (.int (nI (sKey m c)))), (· = h), some n) 0 0 := by
  refine eM.of RX0 "dictionaryKey" [(0, .int (nI m)), (1, .int (nI c))] pn_X0 rfl rfl (Nat.le_of_ble_eq_true rfl) rfl ?_
  refine ev_iconst (v := nI 0) dX0_dictionaryKey_0 rfl ?_
  refine ev_istore_n dX0_dictionaryKey_1 rfl (Nat.le_of_ble_eq_true rfl) ?_
  refine ev_iconst (v := nI 0) dX0_dictionaryKey_2 rfl ?_
  refine ev_istore_n dX0_dictionaryKey_3 rfl (Nat.le_of_ble_eq_true rfl) ?_
  have H_4 : ∀ (d_4 : Nat) (k f : Nat), d_4 = 4 - k → (k ≤ 4) → (f = sKeyTo m c k) → eV mX0_dictionaryKey 4 [(0, .int (nI m)), (1, .int (nI c)), (2, .int (nI f)), (3, .int (nI k))] [] (h, n, 0, 0) (.inl (some (.int (nI (sKey m c)))), (· = h), some n) 0 0 := by
    intro d_4
    induction d_4 using Nat.strongRecOn with
    | _ d_4 ih_4 =>
    intro k f hd_4 hk hf
    refine ev_iload_n dX0_dictionaryKey_4 rfl rfl ?_
    refine ev_iconst (v := nI 4) dX0_dictionaryKey_5 rfl ?_
    first | ((with_reducible show eV _ _ _ (Value.int (nI _) :: Value.int (nI _) :: _) _ _ _ _); refine ev_icmp_geN (tgt := 38) dX0_dictionaryKey_6 (by decide) (by omega) (by omega) (fun c_6 => ?_) (fun c_6 => ?_)) | ((with_reducible show eV _ _ _ (Value.int (nI _) :: _) _ _ _ _); refine ev_icmp_geZN (tgt := 38) dX0_dictionaryKey_6 (by decide) (by omega) (fun c_6 => ?_) (fun c_6 => ?_)) | ((with_reducible show eV _ _ _ (_ :: Value.int (nI _) :: _) _ _ _ _); refine ev_icmp_geNZ (tgt := 38) dX0_dictionaryKey_6 (by decide) (by omega) (fun c_6 => ?_) (fun c_6 => ?_)) | (refine ev_icmp_geZZ (tgt := 38) dX0_dictionaryKey_6 (by decide) (fun c_6 => ?_) (fun c_6 => ?_))
    · refine ev_iload_n dX0_dictionaryKey_38 rfl rfl ?_
      exact ev_iret dX0_dictionaryKey_39 rfl rfl (by exact nR (by have e : k = 4 := (by omega); rw [sKey, hf, ← e])) (by rfl) (fun _ e => Option.some.inj e) (Nat.le_of_ble_eq_true rfl) (Nat.le_of_ble_eq_true rfl)
    · refine ev_iload_n dX0_dictionaryKey_9 rfl rfl ?_
      refine ev_bipush (v := nI 27) dX0_dictionaryKey_10 rfl ?_
      first | refine ev_imulN dX0_dictionaryKey_12 ?_ | refine ev_imul dX0_dictionaryKey_12 ?_
      refine ev_iload_n dX0_dictionaryKey_13 rfl rfl ?_
      refine ev_iload_n dX0_dictionaryKey_14 rfl rfl ?_
      first | ((with_reducible show eV _ _ _ (Value.int (nI _) :: Value.int (nI _) :: _) _ _ _ _); refine ev_icmp_geN (tgt := 29) dX0_dictionaryKey_15 (by decide) (by omega) (by omega) (fun c_15 => ?_) (fun c_15 => ?_)) | ((with_reducible show eV _ _ _ (Value.int (nI _) :: _) _ _ _ _); refine ev_icmp_geZN (tgt := 29) dX0_dictionaryKey_15 (by decide) (by omega) (fun c_15 => ?_) (fun c_15 => ?_)) | ((with_reducible show eV _ _ _ (_ :: Value.int (nI _) :: _) _ _ _ _); refine ev_icmp_geNZ (tgt := 29) dX0_dictionaryKey_15 (by decide) (by omega) (fun c_15 => ?_) (fun c_15 => ?_)) | (refine ev_icmp_geZZ (tgt := 29) dX0_dictionaryKey_15 (by decide) (fun c_15 => ?_) (fun c_15 => ?_))
      · refine ev_iconst (v := nI 0) dX0_dictionaryKey_29 rfl ?_
        first | refine ev_iaddN dX0_dictionaryKey_30 ?_ | refine ev_iadd dX0_dictionaryKey_30 ?_
        refine ev_istore_n dX0_dictionaryKey_31 rfl (Nat.le_of_ble_eq_true rfl) ?_
        first | refine ev_iincN dX0_dictionaryKey_32 rfl (Nat.le_of_ble_eq_true rfl) ?_ | refine ev_iinc dX0_dictionaryKey_32 rfl rfl (Nat.le_of_ble_eq_true rfl) ?_
        refine ev_goto (tgt := 4) dX0_dictionaryKey_35 (by decide) ?_
        exact (ih_4 _ (by omega) _ _  rfl (by first | omega | assumption | rfl) (by first | (rw [sKeyTo, if_pos (by omega), ← hf]; done) | (rw [sKeyTo, if_neg (by omega), ← hf]; done))).sub1 ⟨rfl, rfl, rfl, rfl, trivial⟩ rfl
      · refine ev_iload_n dX0_dictionaryKey_18 rfl rfl ?_
        refine ev_iload_n dX0_dictionaryKey_19 rfl rfl ?_
        refine ev_iload_n dX0_dictionaryKey_20 rfl rfl ?_
        refine ev_callSi dX0_dictionaryKey_21 (c_X0_at (by first | assumption | omega) (by first | assumption | omega) (by first | assumption | omega)) lk_X0_15 ⟨Nat.le_of_ble_eq_true rfl, Nat.le_of_ble_eq_true rfl⟩ rfl (Nat.le_of_ble_eq_true rfl) ⟨Nat.le_of_ble_eq_true rfl, Nat.le_of_ble_eq_true rfl⟩ (eRo ?_)
        refine ev_iconst (v := nI 1) dX0_dictionaryKey_24 rfl ?_
        first | refine ev_iaddN dX0_dictionaryKey_25 ?_ | refine ev_iadd dX0_dictionaryKey_25 ?_
        refine ev_goto (tgt := 30) dX0_dictionaryKey_26 (by decide) ?_
        first | refine ev_iaddN dX0_dictionaryKey_30 ?_ | refine ev_iadd dX0_dictionaryKey_30 ?_
        refine ev_istore_n dX0_dictionaryKey_31 rfl (Nat.le_of_ble_eq_true rfl) ?_
        first | refine ev_iincN dX0_dictionaryKey_32 rfl (Nat.le_of_ble_eq_true rfl) ?_ | refine ev_iinc dX0_dictionaryKey_32 rfl rfl (Nat.le_of_ble_eq_true rfl) ?_
        refine ev_goto (tgt := 4) dX0_dictionaryKey_35 (by decide) ?_
        exact (ih_4 _ (by omega) _ _  rfl (by first | omega | assumption | rfl) (by first | (rw [sKeyTo, if_pos (by omega), ← hf]; done) | (rw [sKeyTo, if_neg (by omega), ← hf]; done))).sub1 ⟨rfl, rfl, rfl, rfl, trivial⟩ rfl
  exact (H_4 _ 0 0 rfl (by first | omega | assumption | rfl) (by first | omega | assumption | rfl)).sub1 ⟨rfl, rfl, rfl, rfl, trivial⟩ rfl
set_option maxHeartbeats 4000000 in
set_option maxRecDepth 20000 in
theorem c_X0_isRepeated {h : eH} {n m c p : Nat} (hm : 1 ≤ m ∧ m ≤ 4) (hc : c < 2 ^ 31) (hp : p < m) : kX0_isRepeated [.int (nI m), .int (nI c), .int (nI p)] h n (.inl (some (.int (bI (sRep m c p)))), (· = h), some n) 0 0 := by
  refine eM.of RX0 "isRepeated" [(0, .int (nI m)), (1, .int (nI c)), (2, .int (nI p))] pn_X0 rfl rfl (Nat.le_of_ble_eq_true rfl) rfl ?_
  refine ev_iconst (v := nI 0) dX0_isRepeated_0 rfl ?_
  refine ev_istore_n dX0_isRepeated_1 rfl (Nat.le_of_ble_eq_true rfl) ?_
  have H_2 : ∀ (d_2 : Nat) (k : Nat), d_2 = p - k → (k ≤ p) → (fst (fun i => decide (sLet m c i = sLet m c p)) k = none) → eV mX0_isRepeated 2 [(0, .int (nI m)), (1, .int (nI c)), (2, .int (nI p)), (3, .int (nI k))] [] (h, n, 0, 0) (.inl (some (.int (bI (sRep m c p)))), (· = h), some n) 0 0 := by
    intro d_2
    induction d_2 using Nat.strongRecOn with
    | _ d_2 ih_2 =>
    intro k hd_2 hk hf
    refine ev_iload_n dX0_isRepeated_2 rfl rfl ?_
    refine ev_iload_n dX0_isRepeated_3 rfl rfl ?_
    first | ((with_reducible show eV _ _ _ (Value.int (nI _) :: Value.int (nI _) :: _) _ _ _ _); refine ev_icmp_geN (tgt := 30) dX0_isRepeated_4 (by decide) (by first | omega | exact Nat.lt_trans (sLet_lt _ _ _) (by decide)) (by first | omega | exact Nat.lt_trans (sLet_lt _ _ _) (by decide)) (fun c_4 => ?_) (fun c_4 => ?_)) | ((with_reducible show eV _ _ _ (Value.int (nI _) :: _) _ _ _ _); refine ev_icmp_geZN (tgt := 30) dX0_isRepeated_4 (by decide) (by first | omega | exact Nat.lt_trans (sLet_lt _ _ _) (by decide)) (fun c_4 => ?_) (fun c_4 => ?_)) | ((with_reducible show eV _ _ _ (_ :: Value.int (nI _) :: _) _ _ _ _); refine ev_icmp_geNZ (tgt := 30) dX0_isRepeated_4 (by decide) (by first | omega | exact Nat.lt_trans (sLet_lt _ _ _) (by decide)) (fun c_4 => ?_) (fun c_4 => ?_)) | (refine ev_icmp_geZZ (tgt := 30) dX0_isRepeated_4 (by decide) (fun c_4 => ?_) (fun c_4 => ?_))
    · refine ev_iconst (v := nI 0) dX0_isRepeated_30 rfl ?_
      exact ev_iret dX0_isRepeated_31 rfl (by first | rfl | exact bI_n _) (by exact bR0 (by have e : k = p := (by omega); rw [sRep, ← e]; rw [← e] at hf; rw [hf]; rfl)) (by rfl) (fun _ e => Option.some.inj e) (Nat.le_of_ble_eq_true rfl) (Nat.le_of_ble_eq_true rfl)
    · refine ev_iload_n dX0_isRepeated_7 rfl rfl ?_
      refine ev_iload_n dX0_isRepeated_8 rfl rfl ?_
      refine ev_iload_n dX0_isRepeated_9 rfl rfl ?_
      refine ev_callSi dX0_isRepeated_10 (c_X0_at (by first | assumption | omega) (by first | assumption | omega) (by first | assumption | omega)) lk_X0_15 ⟨Nat.le_of_ble_eq_true rfl, Nat.le_of_ble_eq_true rfl⟩ rfl (Nat.le_of_ble_eq_true rfl) ⟨Nat.le_of_ble_eq_true rfl, Nat.le_of_ble_eq_true rfl⟩ (eRo ?_)
      refine ev_iload_n dX0_isRepeated_13 rfl rfl ?_
      refine ev_iload_n dX0_isRepeated_14 rfl rfl ?_
      refine ev_iload_n dX0_isRepeated_15 rfl rfl ?_
      refine ev_callSi dX0_isRepeated_16 (c_X0_at (by first | assumption | omega) (by first | assumption | omega) (by first | assumption | omega)) lk_X0_15 ⟨Nat.le_of_ble_eq_true rfl, Nat.le_of_ble_eq_true rfl⟩ rfl (Nat.le_of_ble_eq_true rfl) ⟨Nat.le_of_ble_eq_true rfl, Nat.le_of_ble_eq_true rfl⟩ (eRo ?_)
      first | ((with_reducible show eV _ _ _ (Value.int (nI _) :: Value.int (nI _) :: _) _ _ _ _); refine ev_icmp_neN (tgt := 24) dX0_isRepeated_19 (by decide) (by first | omega | exact Nat.lt_trans (sLet_lt _ _ _) (by decide)) (by first | omega | exact Nat.lt_trans (sLet_lt _ _ _) (by decide)) (fun c_19 => ?_) (fun c_19 => ?_)) | ((with_reducible show eV _ _ _ (Value.int (-1) :: Value.int (oI _) :: _) _ _ _ _); refine ev_icmp_neO (tgt := 24) dX0_isRepeated_19 (by decide) (by first | assumption | (intro k9 h9; exact absurd h9 (by simp)) | (intro k9 h9; have := (fst_lt h9).1; omega) | (intro k9 h9; cases h9; omega)) (fun c_19 => ?_) (fun c_19 => ?_)) | ((with_reducible show eV _ _ _ (Value.int (nI _) :: _) _ _ _ _); refine ev_icmp_neZN (tgt := 24) dX0_isRepeated_19 (by decide) (by first | omega | exact Nat.lt_trans (sLet_lt _ _ _) (by decide)) (fun c_19 => ?_) (fun c_19 => ?_)) | ((with_reducible show eV _ _ _ (_ :: Value.int (nI _) :: _) _ _ _ _); refine ev_icmp_neNZ (tgt := 24) dX0_isRepeated_19 (by decide) (by first | omega | exact Nat.lt_trans (sLet_lt _ _ _) (by decide)) (fun c_19 => ?_) (fun c_19 => ?_)) | (refine ev_icmp_neZZ (tgt := 24) dX0_isRepeated_19 (by decide) (fun c_19 => ?_) (fun c_19 => ?_))
      · first | refine ev_iincN dX0_isRepeated_24 rfl (Nat.le_of_ble_eq_true rfl) ?_ | refine ev_iinc dX0_isRepeated_24 rfl rfl (Nat.le_of_ble_eq_true rfl) ?_
        refine ev_goto (tgt := 2) dX0_isRepeated_27 (by decide) ?_
        exact (ih_2 _ (by omega) _  rfl (by first | omega | assumption | rfl) (by exact fst_s hf (by simp only [decide_eq_false_iff_not]; assumption))).sub1 ⟨rfl, rfl, rfl, rfl, trivial⟩ rfl
      · refine ev_iconst (v := nI 1) dX0_isRepeated_22 rfl ?_
        exact ev_iret dX0_isRepeated_23 rfl (by first | rfl | exact bI_n _) (by exact bR1 (by rw [sRep, fst_up hf (by simp only [decide_eq_true_eq]; assumption) (by omega)]; rfl)) (by rfl) (fun _ e => Option.some.inj e) (Nat.le_of_ble_eq_true rfl) (Nat.le_of_ble_eq_true rfl)
  exact (H_2 _ 0 rfl (by first | omega | assumption | rfl) (by first | omega | assumption | rfl)).sub1 ⟨rfl, rfl, rfl, rfl, trivial⟩ rfl
set_option maxHeartbeats 4000000 in
set_option maxRecDepth 20000 in
theorem c_X2_aliveAheadOf {h : eH} {n q : Nat} {σ : St} (hN : eNm h q σ) (hO : eOK σ) {a : Nat} (ha : a < σ 0 1) : kX2_aliveAheadOf [.ref q, .int (nI a)] h n (.inl (some (.int (nI (sAhead σ a)))), (· = h), some n) 0 0 := by
  refine eM.of RX2 "aliveAheadOf" [(0, .ref q), (1, .int (nI a))] pn_X2 rfl rfl (Nat.le_of_ble_eq_true rfl) rfl ?_
  have hB : eB σ := hO.1
  have hm := hO.2.2.1
  have hL := hO.2.2.2.1
  obtain ⟨h0, h1, h2, h3, h4, h5, h6, h7, h8, h9⟩ := id hN
  refine ev_aload_n dX2_aliveAheadOf_0 rfl rfl ?_
  refine ev_getfield dX2_aliveAheadOf_1 fl_X2_15 (by first | assumption | omega) rfl ?_
  refine ev_iload_n dX2_aliveAheadOf_4 rfl rfl ?_
  refine ev_ialoadA dX2_aliveAheadOf_5 (by first | assumption | omega) (by first | assumption | omega) ?_
  refine ev_aload_n dX2_aliveAheadOf_6 rfl rfl ?_
  refine ev_getfield dX2_aliveAheadOf_7 fl_X2_19 (by first | assumption | omega) rfl ?_
  refine ev_iload_n dX2_aliveAheadOf_10 rfl rfl ?_
  refine ev_ialoadA dX2_aliveAheadOf_11 (by first | assumption | omega) (by first | assumption | omega) ?_
  refine ev_callSi dX2_aliveAheadOf_12 (c_X0_dictionaryKey ⟨(hL a ha).2.2.1, (hL a ha).2.2.2.1⟩ (hB _ _)) lk_X2_72 ⟨Nat.le_of_ble_eq_true rfl, Nat.le_of_ble_eq_true rfl⟩ rfl (Nat.le_of_ble_eq_true rfl) ⟨Nat.le_of_ble_eq_true rfl, Nat.le_of_ble_eq_true rfl⟩ (eRo ?_)
  refine ev_istore_n dX2_aliveAheadOf_15 rfl (Nat.le_of_ble_eq_true rfl) ?_
  refine ev_iconst (v := nI 0) dX2_aliveAheadOf_16 rfl ?_
  refine ev_istore_n dX2_aliveAheadOf_17 rfl (Nat.le_of_ble_eq_true rfl) ?_
  refine ev_iconst (v := nI 0) dX2_aliveAheadOf_18 rfl ?_
  refine ev_istore dX2_aliveAheadOf_19 (Nat.le_of_ble_eq_true rfl) ?_
  have H_21 : ∀ (d_21 : Nat) (k f : Nat), d_21 = σ 0 1 - k → (k ≤ σ 0 1) → (f = cnt (fun k => sAlive σ k && (decide (sKey (σ 6 k) (σ 7 k) < sKey (σ 6 a) (σ 7 a)) || (decide (sKey (σ 6 k) (σ 7 k) = sKey (σ 6 a) (σ 7 a)) && decide (k < a)))) k) → eV mX2_aliveAheadOf 21 [(0, .ref q), (1, .int (nI a)), (2, .int (nI (sKey (σ 6 a) (σ 7 a)))), (3, .int (nI f)), (4, .int (nI k))] [] (h, n, 0, 0) (.inl (some (.int (nI (sAhead σ a)))), (· = h), some n) 0 0 := by
    intro d_21
    induction d_21 using Nat.strongRecOn with
    | _ d_21 ih_21 =>
    intro k f hd_21 hk hf
    refine ev_iload dX2_aliveAheadOf_21 rfl ?_
    refine ev_aload_n dX2_aliveAheadOf_23 rfl rfl ?_
    refine ev_getfield dX2_aliveAheadOf_24 fl_X2_9 (by first | assumption | omega) rfl ?_
    first | ((with_reducible show eV _ _ _ (Value.int (nI _) :: Value.int (nI _) :: _) _ _ _ _); refine ev_icmp_geN (tgt := 85) dX2_aliveAheadOf_27 (by decide) (by first | exact hB _ _ | exact Nat.lt_trans (sKey_small _ _) (by decide) | omega) (by first | exact hB _ _ | exact Nat.lt_trans (sKey_small _ _) (by decide) | omega) (fun c_27 => ?_) (fun c_27 => ?_)) | ((with_reducible show eV _ _ _ (Value.int (nI _) :: _) _ _ _ _); refine ev_icmp_geZN (tgt := 85) dX2_aliveAheadOf_27 (by decide) (by first | exact hB _ _ | exact Nat.lt_trans (sKey_small _ _) (by decide) | omega) (fun c_27 => ?_) (fun c_27 => ?_)) | ((with_reducible show eV _ _ _ (_ :: Value.int (nI _) :: _) _ _ _ _); refine ev_icmp_geNZ (tgt := 85) dX2_aliveAheadOf_27 (by decide) (by first | exact hB _ _ | exact Nat.lt_trans (sKey_small _ _) (by decide) | omega) (fun c_27 => ?_) (fun c_27 => ?_)) | (refine ev_icmp_geZZ (tgt := 85) dX2_aliveAheadOf_27 (by decide) (fun c_27 => ?_) (fun c_27 => ?_))
    · refine ev_iload_n dX2_aliveAheadOf_85 rfl rfl ?_
      exact ev_iret dX2_aliveAheadOf_86 rfl rfl (by exact nR (by have e : k = σ 0 1 := (by omega); rw [sAhead, hf, ← e])) (by rfl) (fun _ e => Option.some.inj e) (Nat.le_of_ble_eq_true rfl) (Nat.le_of_ble_eq_true rfl)
    · refine ev_aload_n dX2_aliveAheadOf_30 rfl rfl ?_
      refine ev_iload dX2_aliveAheadOf_31 rfl ?_
      refine ev_callVi dX2_aliveAheadOf_33 (c_X2_isAlive (by first | assumption | omega) (by first | assumption | omega) (by first | assumption | omega)) rfl lk_X2_65 (by first | assumption | omega) ⟨Nat.le_of_ble_eq_true rfl, Nat.le_of_ble_eq_true rfl⟩ rfl (Nat.le_of_ble_eq_true rfl) ⟨Nat.le_of_ble_eq_true rfl, Nat.le_of_ble_eq_true rfl⟩ (eRo ?_)
      first | ((with_reducible show eV _ _ _ (Value.int (bI _) :: _) _ _ _ _); refine ev_if_eqB (tgt := 79) dX2_aliveAheadOf_36 (by decide) (fun c_36 => ?_) (fun c_36 => ?_)) | ((with_reducible show eV _ _ _ (Value.int (nI _) :: _) _ _ _ _); refine ev_if_eqN (tgt := 79) dX2_aliveAheadOf_36 (by decide) (by first | exact hB _ _ | exact Nat.lt_trans (sKey_small _ _) (by decide) | omega) (fun c_36 => ?_) (fun c_36 => ?_)) | (refine ev_if_eqZ (tgt := 79) dX2_aliveAheadOf_36 (by decide) (fun c_36 => ?_) (fun c_36 => ?_))
      · first | refine ev_iincN dX2_aliveAheadOf_79 rfl (Nat.le_of_ble_eq_true rfl) ?_ | refine ev_iinc dX2_aliveAheadOf_79 rfl rfl (Nat.le_of_ble_eq_true rfl) ?_
        refine ev_goto (tgt := 21) dX2_aliveAheadOf_82 (by decide) ?_
        exact (ih_21 _ (by omega) _ _  rfl (by first | omega | assumption | rfl) (by first | (rw [cnt_f (by simp only [Bool.and_eq_false_iff, Bool.or_eq_false_iff, decide_eq_false_iff_not]; first | omega | (left; assumption) | (right; omega))]; exact hf) | (rw [cnt_t (by simp only [Bool.and_eq_true, Bool.or_eq_true, decide_eq_true_eq]; exact ⟨by assumption, by omega⟩), ← hf]))).sub1 ⟨rfl, rfl, rfl, rfl, rfl, trivial⟩ rfl
      · refine ev_aload_n dX2_aliveAheadOf_39 rfl rfl ?_
        refine ev_getfield dX2_aliveAheadOf_40 fl_X2_15 (by first | assumption | omega) rfl ?_
        refine ev_iload dX2_aliveAheadOf_43 rfl ?_
        refine ev_ialoadA dX2_aliveAheadOf_45 (by first | assumption | omega) (by first | assumption | omega) ?_
        refine ev_aload_n dX2_aliveAheadOf_46 rfl rfl ?_
        refine ev_getfield dX2_aliveAheadOf_47 fl_X2_19 (by first | assumption | omega) rfl ?_
        refine ev_iload dX2_aliveAheadOf_50 rfl ?_
        refine ev_ialoadA dX2_aliveAheadOf_52 (by first | assumption | omega) (by first | assumption | omega) ?_
        refine ev_callSi dX2_aliveAheadOf_53 (c_X0_dictionaryKey ⟨(hL k (by omega)).2.2.1, (hL k (by omega)).2.2.2.1⟩ (hB _ _)) lk_X2_72 ⟨Nat.le_of_ble_eq_true rfl, Nat.le_of_ble_eq_true rfl⟩ rfl (Nat.le_of_ble_eq_true rfl) ⟨Nat.le_of_ble_eq_true rfl, Nat.le_of_ble_eq_true rfl⟩ (eRo ?_)
        refine ev_istore dX2_aliveAheadOf_56 (Nat.le_of_ble_eq_true rfl) ?_
        refine ev_iload dX2_aliveAheadOf_58 rfl ?_
        refine ev_iload_n dX2_aliveAheadOf_60 rfl rfl ?_
        first | ((with_reducible show eV _ _ _ (Value.int (nI _) :: Value.int (nI _) :: _) _ _ _ _); refine ev_icmp_ltN (tgt := 76) dX2_aliveAheadOf_61 (by decide) (by first | exact hB _ _ | exact Nat.lt_trans (sKey_small _ _) (by decide) | omega) (by first | exact hB _ _ | exact Nat.lt_trans (sKey_small _ _) (by decide) | omega) (fun c_61 => ?_) (fun c_61 => ?_)) | ((with_reducible show eV _ _ _ (Value.int (nI _) :: _) _ _ _ _); refine ev_icmp_ltZN (tgt := 76) dX2_aliveAheadOf_61 (by decide) (by first | exact hB _ _ | exact Nat.lt_trans (sKey_small _ _) (by decide) | omega) (fun c_61 => ?_) (fun c_61 => ?_)) | ((with_reducible show eV _ _ _ (_ :: Value.int (nI _) :: _) _ _ _ _); refine ev_icmp_ltNZ (tgt := 76) dX2_aliveAheadOf_61 (by decide) (by first | exact hB _ _ | exact Nat.lt_trans (sKey_small _ _) (by decide) | omega) (fun c_61 => ?_) (fun c_61 => ?_)) | (refine ev_icmp_ltZZ (tgt := 76) dX2_aliveAheadOf_61 (by decide) (fun c_61 => ?_) (fun c_61 => ?_))
        · first | refine ev_iincN dX2_aliveAheadOf_76 rfl (Nat.le_of_ble_eq_true rfl) ?_ | refine ev_iinc dX2_aliveAheadOf_76 rfl rfl (Nat.le_of_ble_eq_true rfl) ?_
          first | refine ev_iincN dX2_aliveAheadOf_79 rfl (Nat.le_of_ble_eq_true rfl) ?_ | refine ev_iinc dX2_aliveAheadOf_79 rfl rfl (Nat.le_of_ble_eq_true rfl) ?_
          refine ev_goto (tgt := 21) dX2_aliveAheadOf_82 (by decide) ?_
          exact (ih_21 _ (by omega) _ _  rfl (by first | omega | assumption | rfl) (by first | (rw [cnt_f (by simp only [Bool.and_eq_false_iff, Bool.or_eq_false_iff, decide_eq_false_iff_not]; first | omega | (left; assumption) | (right; omega))]; exact hf) | (rw [cnt_t (by simp only [Bool.and_eq_true, Bool.or_eq_true, decide_eq_true_eq]; exact ⟨by assumption, by omega⟩), ← hf]))).sub1 ⟨rfl, rfl, rfl, rfl, rfl, trivial⟩ rfl
        · refine ev_iload dX2_aliveAheadOf_64 rfl ?_
          refine ev_iload_n dX2_aliveAheadOf_66 rfl rfl ?_
          first | ((with_reducible show eV _ _ _ (Value.int (nI _) :: Value.int (nI _) :: _) _ _ _ _); refine ev_icmp_neN (tgt := 79) dX2_aliveAheadOf_67 (by decide) (by first | exact hB _ _ | exact Nat.lt_trans (sKey_small _ _) (by decide) | omega) (by first | exact hB _ _ | exact Nat.lt_trans (sKey_small _ _) (by decide) | omega) (fun c_67 => ?_) (fun c_67 => ?_)) | ((with_reducible show eV _ _ _ (Value.int (-1) :: Value.int (oI _) :: _) _ _ _ _); refine ev_icmp_neO (tgt := 79) dX2_aliveAheadOf_67 (by decide) (by first | assumption | (intro k9 h9; exact absurd h9 (by simp)) | (intro k9 h9; have := (fst_lt h9).1; omega) | (intro k9 h9; cases h9; omega)) (fun c_67 => ?_) (fun c_67 => ?_)) | ((with_reducible show eV _ _ _ (Value.int (nI _) :: _) _ _ _ _); refine ev_icmp_neZN (tgt := 79) dX2_aliveAheadOf_67 (by decide) (by first | exact hB _ _ | exact Nat.lt_trans (sKey_small _ _) (by decide) | omega) (fun c_67 => ?_) (fun c_67 => ?_)) | ((with_reducible show eV _ _ _ (_ :: Value.int (nI _) :: _) _ _ _ _); refine ev_icmp_neNZ (tgt := 79) dX2_aliveAheadOf_67 (by decide) (by first | exact hB _ _ | exact Nat.lt_trans (sKey_small _ _) (by decide) | omega) (fun c_67 => ?_) (fun c_67 => ?_)) | (refine ev_icmp_neZZ (tgt := 79) dX2_aliveAheadOf_67 (by decide) (fun c_67 => ?_) (fun c_67 => ?_))
          · first | refine ev_iincN dX2_aliveAheadOf_79 rfl (Nat.le_of_ble_eq_true rfl) ?_ | refine ev_iinc dX2_aliveAheadOf_79 rfl rfl (Nat.le_of_ble_eq_true rfl) ?_
            refine ev_goto (tgt := 21) dX2_aliveAheadOf_82 (by decide) ?_
            exact (ih_21 _ (by omega) _ _  rfl (by first | omega | assumption | rfl) (by first | (rw [cnt_f (by simp only [Bool.and_eq_false_iff, Bool.or_eq_false_iff, decide_eq_false_iff_not]; first | omega | (left; assumption) | (right; omega))]; exact hf) | (rw [cnt_t (by simp only [Bool.and_eq_true, Bool.or_eq_true, decide_eq_true_eq]; exact ⟨by assumption, by omega⟩), ← hf]))).sub1 ⟨rfl, rfl, rfl, rfl, rfl, trivial⟩ rfl
          · refine ev_iload dX2_aliveAheadOf_70 rfl ?_
            refine ev_iload_n dX2_aliveAheadOf_72 rfl rfl ?_
            first | ((with_reducible show eV _ _ _ (Value.int (nI _) :: Value.int (nI _) :: _) _ _ _ _); refine ev_icmp_geN (tgt := 79) dX2_aliveAheadOf_73 (by decide) (by first | exact hB _ _ | exact Nat.lt_trans (sKey_small _ _) (by decide) | omega) (by first | exact hB _ _ | exact Nat.lt_trans (sKey_small _ _) (by decide) | omega) (fun c_73 => ?_) (fun c_73 => ?_)) | ((with_reducible show eV _ _ _ (Value.int (nI _) :: _) _ _ _ _); refine ev_icmp_geZN (tgt := 79) dX2_aliveAheadOf_73 (by decide) (by first | exact hB _ _ | exact Nat.lt_trans (sKey_small _ _) (by decide) | omega) (fun c_73 => ?_) (fun c_73 => ?_)) | ((with_reducible show eV _ _ _ (_ :: Value.int (nI _) :: _) _ _ _ _); refine ev_icmp_geNZ (tgt := 79) dX2_aliveAheadOf_73 (by decide) (by first | exact hB _ _ | exact Nat.lt_trans (sKey_small _ _) (by decide) | omega) (fun c_73 => ?_) (fun c_73 => ?_)) | (refine ev_icmp_geZZ (tgt := 79) dX2_aliveAheadOf_73 (by decide) (fun c_73 => ?_) (fun c_73 => ?_))
            · first | refine ev_iincN dX2_aliveAheadOf_79 rfl (Nat.le_of_ble_eq_true rfl) ?_ | refine ev_iinc dX2_aliveAheadOf_79 rfl rfl (Nat.le_of_ble_eq_true rfl) ?_
              refine ev_goto (tgt := 21) dX2_aliveAheadOf_82 (by decide) ?_
              exact (ih_21 _ (by omega) _ _  rfl (by first | omega | assumption | rfl) (by first | (rw [cnt_f (by simp only [Bool.and_eq_false_iff, Bool.or_eq_false_iff, decide_eq_false_iff_not]; first | omega | (left; assumption) | (right; omega))]; exact hf) | (rw [cnt_t (by simp only [Bool.and_eq_true, Bool.or_eq_true, decide_eq_true_eq]; exact ⟨by assumption, by omega⟩), ← hf]))).sub1 ⟨rfl, rfl, rfl, rfl, rfl, trivial⟩ rfl
            · first | refine ev_iincN dX2_aliveAheadOf_76 rfl (Nat.le_of_ble_eq_true rfl) ?_ | refine ev_iinc dX2_aliveAheadOf_76 rfl rfl (Nat.le_of_ble_eq_true rfl) ?_
              first | refine ev_iincN dX2_aliveAheadOf_79 rfl (Nat.le_of_ble_eq_true rfl) ?_ | refine ev_iinc dX2_aliveAheadOf_79 rfl rfl (Nat.le_of_ble_eq_true rfl) ?_
              refine ev_goto (tgt := 21) dX2_aliveAheadOf_82 (by decide) ?_
              exact (ih_21 _ (by omega) _ _  rfl (by first | omega | assumption | rfl) (by first | (rw [cnt_f (by simp only [Bool.and_eq_false_iff, Bool.or_eq_false_iff, decide_eq_false_iff_not]; first | omega | (left; assumption) | (right; omega))]; exact hf) | (rw [cnt_t (by simp only [Bool.and_eq_true, Bool.or_eq_true, decide_eq_true_eq]; exact ⟨by assumption, by omega⟩), ← hf]))).sub1 ⟨rfl, rfl, rfl, rfl, rfl, trivial⟩ rfl
  exact (H_21 _ 0 0 rfl (by first | omega | assumption | rfl) (by first | omega | assumption | rfl)).sub1 ⟨rfl, rfl, rfl, rfl, rfl, trivial⟩ rfl
set_option maxHeartbeats 4000000 in
set_option maxRecDepth 20000 in
theorem c_X2_ranked {h : eH} {n q : Nat} {σ : St} (hN : eNm h q σ) (hO : eOK σ) {a : Nat} (ha : a < 2 ^ 31) : kX2_ranked [.ref q, .int (nI a)] h n (.inl (some (.int (oI (sRank σ a)))), (· = h), some n) 0 0 := by
  refine eM.of RX2 "ranked" [(0, .ref q), (1, .int (nI a))] pn_X2 rfl rfl (Nat.le_of_ble_eq_true rfl) rfl ?_
  have hB : eB σ := hO.1
  have hm := hO.2.2.1
  obtain ⟨h0, h1, h2, h3, h4, h5, h6, h7, h8, h9⟩ := id hN
  refine ev_iconst (v := nI 0) dX2_ranked_0 rfl ?_
  refine ev_istore_n dX2_ranked_1 rfl (Nat.le_of_ble_eq_true rfl) ?_
  have H_2 : ∀ (d_2 : Nat) (k : Nat), d_2 = σ 0 1 - k → (k ≤ σ 0 1) → (fst (fun k => sAlive σ k && decide (sAhead σ k = a)) k = none) → eV mX2_ranked 2 [(0, .ref q), (1, .int (nI a)), (2, .int (nI k))] [] (h, n, 0, 0) (.inl (some (.int (oI (sRank σ a)))), (· = h), some n) 0 0 := by
    intro d_2
    induction d_2 using Nat.strongRecOn with
    | _ d_2 ih_2 =>
    intro k hd_2 hk hf
    refine ev_iload_n dX2_ranked_2 rfl rfl ?_
    refine ev_aload_n dX2_ranked_3 rfl rfl ?_
    refine ev_getfield dX2_ranked_4 fl_X2_9 (by first | assumption | omega) rfl ?_
    first | ((with_reducible show eV _ _ _ (Value.int (nI _) :: Value.int (nI _) :: _) _ _ _ _); refine ev_icmp_geN (tgt := 35) dX2_ranked_7 (by decide) (by first | exact hB _ _ | omega | exact Nat.lt_of_le_of_lt (Nat.le_trans (cnt_le _ _) hm) (by decide)) (by first | exact hB _ _ | omega | exact Nat.lt_of_le_of_lt (Nat.le_trans (cnt_le _ _) hm) (by decide)) (fun c_7 => ?_) (fun c_7 => ?_)) | ((with_reducible show eV _ _ _ (Value.int (nI _) :: _) _ _ _ _); refine ev_icmp_geZN (tgt := 35) dX2_ranked_7 (by decide) (by first | exact hB _ _ | omega | exact Nat.lt_of_le_of_lt (Nat.le_trans (cnt_le _ _) hm) (by decide)) (fun c_7 => ?_) (fun c_7 => ?_)) | ((with_reducible show eV _ _ _ (_ :: Value.int (nI _) :: _) _ _ _ _); refine ev_icmp_geNZ (tgt := 35) dX2_ranked_7 (by decide) (by first | exact hB _ _ | omega | exact Nat.lt_of_le_of_lt (Nat.le_trans (cnt_le _ _) hm) (by decide)) (fun c_7 => ?_) (fun c_7 => ?_)) | (refine ev_icmp_geZZ (tgt := 35) dX2_ranked_7 (by decide) (fun c_7 => ?_) (fun c_7 => ?_))
    · refine ev_iconst (v := -1) dX2_ranked_35 (by decide) ?_
      exact ev_iret dX2_ranked_36 rfl rfl (by exact oRn (by have e : k = σ 0 1 := (by omega); rw [sRank, ← e]; exact hf)) (by rfl) (fun _ e => Option.some.inj e) (Nat.le_of_ble_eq_true rfl) (Nat.le_of_ble_eq_true rfl)
    · refine ev_aload_n dX2_ranked_10 rfl rfl ?_
      refine ev_iload_n dX2_ranked_11 rfl rfl ?_
      refine ev_callVi dX2_ranked_12 (c_X2_isAlive (by first | assumption | omega) (by first | assumption | omega) (by first | assumption | omega)) rfl lk_X2_65 (by first | assumption | omega) ⟨Nat.le_of_ble_eq_true rfl, Nat.le_of_ble_eq_true rfl⟩ rfl (Nat.le_of_ble_eq_true rfl) ⟨Nat.le_of_ble_eq_true rfl, Nat.le_of_ble_eq_true rfl⟩ (eRo ?_)
      first | ((with_reducible show eV _ _ _ (Value.int (bI _) :: _) _ _ _ _); refine ev_if_eqB (tgt := 29) dX2_ranked_15 (by decide) (fun c_15 => ?_) (fun c_15 => ?_)) | ((with_reducible show eV _ _ _ (Value.int (nI _) :: _) _ _ _ _); refine ev_if_eqN (tgt := 29) dX2_ranked_15 (by decide) (by first | exact hB _ _ | omega | exact Nat.lt_of_le_of_lt (Nat.le_trans (cnt_le _ _) hm) (by decide)) (fun c_15 => ?_) (fun c_15 => ?_)) | (refine ev_if_eqZ (tgt := 29) dX2_ranked_15 (by decide) (fun c_15 => ?_) (fun c_15 => ?_))
      · first | refine ev_iincN dX2_ranked_29 rfl (Nat.le_of_ble_eq_true rfl) ?_ | refine ev_iinc dX2_ranked_29 rfl rfl (Nat.le_of_ble_eq_true rfl) ?_
        refine ev_goto (tgt := 2) dX2_ranked_32 (by decide) ?_
        exact (ih_2 _ (by omega) _  rfl (by first | omega | assumption | rfl) (by exact fst_s hf (by simp [*]; done))).sub1 ⟨rfl, rfl, rfl, trivial⟩ rfl
      · refine ev_aload_n dX2_ranked_18 rfl rfl ?_
        refine ev_iload_n dX2_ranked_19 rfl rfl ?_
        refine ev_callVi dX2_ranked_20 (c_X2_aliveAheadOf (by first | assumption | omega) (by first | assumption | omega) (by first | assumption | omega)) rfl lk_X2_69 (by first | assumption | omega) ⟨Nat.le_of_ble_eq_true rfl, Nat.le_of_ble_eq_true rfl⟩ rfl (Nat.le_of_ble_eq_true rfl) ⟨Nat.le_of_ble_eq_true rfl, Nat.le_of_ble_eq_true rfl⟩ (eRo ?_)
        refine ev_iload_n dX2_ranked_23 rfl rfl ?_
        first | ((with_reducible show eV _ _ _ (Value.int (nI _) :: Value.int (nI _) :: _) _ _ _ _); refine ev_icmp_neN (tgt := 29) dX2_ranked_24 (by decide) (by first | exact hB _ _ | omega | exact Nat.lt_of_le_of_lt (Nat.le_trans (cnt_le _ _) hm) (by decide)) (by first | exact hB _ _ | omega | exact Nat.lt_of_le_of_lt (Nat.le_trans (cnt_le _ _) hm) (by decide)) (fun c_24 => ?_) (fun c_24 => ?_)) | ((with_reducible show eV _ _ _ (Value.int (-1) :: Value.int (oI _) :: _) _ _ _ _); refine ev_icmp_neO (tgt := 29) dX2_ranked_24 (by decide) (by first | assumption | (intro k9 h9; exact absurd h9 (by simp)) | (intro k9 h9; have := (fst_lt h9).1; omega) | (intro k9 h9; cases h9; omega)) (fun c_24 => ?_) (fun c_24 => ?_)) | ((with_reducible show eV _ _ _ (Value.int (nI _) :: _) _ _ _ _); refine ev_icmp_neZN (tgt := 29) dX2_ranked_24 (by decide) (by first | exact hB _ _ | omega | exact Nat.lt_of_le_of_lt (Nat.le_trans (cnt_le _ _) hm) (by decide)) (fun c_24 => ?_) (fun c_24 => ?_)) | ((with_reducible show eV _ _ _ (_ :: Value.int (nI _) :: _) _ _ _ _); refine ev_icmp_neNZ (tgt := 29) dX2_ranked_24 (by decide) (by first | exact hB _ _ | omega | exact Nat.lt_of_le_of_lt (Nat.le_trans (cnt_le _ _) hm) (by decide)) (fun c_24 => ?_) (fun c_24 => ?_)) | (refine ev_icmp_neZZ (tgt := 29) dX2_ranked_24 (by decide) (fun c_24 => ?_) (fun c_24 => ?_))
        · first | refine ev_iincN dX2_ranked_29 rfl (Nat.le_of_ble_eq_true rfl) ?_ | refine ev_iinc dX2_ranked_29 rfl rfl (Nat.le_of_ble_eq_true rfl) ?_
          refine ev_goto (tgt := 2) dX2_ranked_32 (by decide) ?_
          exact (ih_2 _ (by omega) _  rfl (by first | omega | assumption | rfl) (by exact fst_s hf (by simp [*]; done))).sub1 ⟨rfl, rfl, rfl, trivial⟩ rfl
        · refine ev_iload_n dX2_ranked_27 rfl rfl ?_
          exact ev_iret dX2_ranked_28 rfl rfl (by exact oR (fst_up hf (by simp [*]; done) (by omega))) (by rfl) (fun _ e => Option.some.inj e) (Nat.le_of_ble_eq_true rfl) (Nat.le_of_ble_eq_true rfl)
  exact (H_2 _ 0 rfl (by first | omega | assumption | rfl) (by first | omega | assumption | rfl)).sub1 ⟨rfl, rfl, rfl, trivial⟩ rfl

