-- NameBenches$People and NameBenches$Names: what they tell
set_option maxHeartbeats 4000000 in
set_option maxRecDepth 20000 in
theorem c_X4_has {h : eH} {n q : Nat} {σ : St} (hP : ePp h q σ) (hB : eB σ) (p : Nat) (hp : p < 2 ^ 31) : kX4_has [.ref q, .int (nI p)] h n (.inl (some (.int (bI (decide (p < σ 0 0))))), (· = h), some n) 0 0 := by
  refine eM.of RX4 "has" [(0, .ref q), (1, .int (nI p))] pn_X4 rfl rfl (Nat.le_of_ble_eq_true rfl) rfl ?_
  obtain ⟨h0, h1, h2, h3, h4, h5⟩ := hP
  refine ev_iload_n dX4_has_0 rfl rfl ?_
  (with_reducible show eV _ _ _ (Value.int (nI _) :: _) _ _ _ _); refine ev_if_ltN (tgt := 16) dX4_has_1 (by decide) (by first | exact hB _ _ | omega) ?_
  refine ev_iload_n dX4_has_4 rfl rfl ?_
  refine ev_aload_n dX4_has_5 rfl rfl ?_
  refine ev_getfield dX4_has_6 fl_X4_9 (by first | assumption | omega) rfl ?_
  first | ((with_reducible show eV _ _ _ (Value.int (nI _) :: Value.int (nI _) :: _) _ _ _ _); refine ev_icmp_geN (tgt := 16) dX4_has_9 (by decide) (by first | exact hB _ _ | omega) (by first | exact hB _ _ | omega) (fun c_9 => ?_) (fun c_9 => ?_)) | ((with_reducible show eV _ _ _ (Value.int (nI _) :: _) _ _ _ _); refine ev_icmp_geZN (tgt := 16) dX4_has_9 (by decide) (by first | exact hB _ _ | omega) (fun c_9 => ?_) (fun c_9 => ?_)) | ((with_reducible show eV _ _ _ (_ :: Value.int (nI _) :: _) _ _ _ _); refine ev_icmp_geNZ (tgt := 16) dX4_has_9 (by decide) (by first | exact hB _ _ | omega) (fun c_9 => ?_) (fun c_9 => ?_)) | (refine ev_icmp_geZZ (tgt := 16) dX4_has_9 (by decide) (fun c_9 => ?_) (fun c_9 => ?_))
  · refine ev_iconst (v := nI 0) dX4_has_16 rfl ?_
    exact ev_iret dX4_has_17 rfl (by first | rfl | exact bI_n _) (by first | exact bR0 (by simp only [bI, Bool.and_eq_true, Bool.and_eq_false_iff, Bool.or_eq_true, Bool.or_eq_false_iff, decide_eq_true_eq, decide_eq_false_iff_not, ne_eq]; omega) | exact bR1 (by simp only [bI, Bool.and_eq_true, Bool.and_eq_false_iff, Bool.or_eq_true, Bool.or_eq_false_iff, decide_eq_true_eq, decide_eq_false_iff_not, ne_eq]; omega) | exact bR0 (by simp [bI, *]; done) | exact bR1 (by simp [bI, *]; done)) (by rfl) (fun _ e => Option.some.inj e) (Nat.le_of_ble_eq_true rfl) (Nat.le_of_ble_eq_true rfl)
  · refine ev_iconst (v := nI 1) dX4_has_12 rfl ?_
    refine ev_goto (tgt := 17) dX4_has_13 (by decide) ?_
    exact ev_iret dX4_has_17 rfl (by first | rfl | exact bI_n _) (by first | exact bR0 (by simp only [bI, Bool.and_eq_true, Bool.and_eq_false_iff, Bool.or_eq_true, Bool.or_eq_false_iff, decide_eq_true_eq, decide_eq_false_iff_not, ne_eq]; omega) | exact bR1 (by simp only [bI, Bool.and_eq_true, Bool.and_eq_false_iff, Bool.or_eq_true, Bool.or_eq_false_iff, decide_eq_true_eq, decide_eq_false_iff_not, ne_eq]; omega) | exact bR0 (by simp [bI, *]; done) | exact bR1 (by simp [bI, *]; done)) (by rfl) (fun _ e => Option.some.inj e) (Nat.le_of_ble_eq_true rfl) (Nat.le_of_ble_eq_true rfl)
set_option maxHeartbeats 4000000 in
set_option maxRecDepth 20000 in
theorem c_X4_isFull {h : eH} {n q : Nat} {σ : St} (hP : ePp h q σ) (hB : eB σ) : kX4_isFull [.ref q] h n (.inl (some (.int (bI (decide (12 ≤ σ 0 0))))), (· = h), some n) 0 0 := by
  refine eM.of RX4 "isFull" [(0, .ref q)] pn_X4 rfl rfl (Nat.le_of_ble_eq_true rfl) rfl ?_
  obtain ⟨h0, h1, h2, h3, h4, h5⟩ := hP
  refine ev_aload_n dX4_isFull_0 rfl rfl ?_
  refine ev_getfield dX4_isFull_1 fl_X4_9 (by first | assumption | omega) rfl ?_
  refine ev_bipush (v := nI 12) dX4_isFull_4 rfl ?_
  first | ((with_reducible show eV _ _ _ (Value.int (nI _) :: Value.int (nI _) :: _) _ _ _ _); refine ev_icmp_ltN (tgt := 13) dX4_isFull_6 (by decide) (by first | exact hB _ _ | omega) (by first | exact hB _ _ | omega) (fun c_6 => ?_) (fun c_6 => ?_)) | ((with_reducible show eV _ _ _ (Value.int (nI _) :: _) _ _ _ _); refine ev_icmp_ltZN (tgt := 13) dX4_isFull_6 (by decide) (by first | exact hB _ _ | omega) (fun c_6 => ?_) (fun c_6 => ?_)) | ((with_reducible show eV _ _ _ (_ :: Value.int (nI _) :: _) _ _ _ _); refine ev_icmp_ltNZ (tgt := 13) dX4_isFull_6 (by decide) (by first | exact hB _ _ | omega) (fun c_6 => ?_) (fun c_6 => ?_)) | (refine ev_icmp_ltZZ (tgt := 13) dX4_isFull_6 (by decide) (fun c_6 => ?_) (fun c_6 => ?_))
  · refine ev_iconst (v := nI 0) dX4_isFull_13 rfl ?_
    exact ev_iret dX4_isFull_14 rfl (by first | rfl | exact bI_n _) (by first | exact bR0 (by simp only [bI, Bool.and_eq_true, Bool.and_eq_false_iff, Bool.or_eq_true, Bool.or_eq_false_iff, decide_eq_true_eq, decide_eq_false_iff_not, ne_eq]; omega) | exact bR1 (by simp only [bI, Bool.and_eq_true, Bool.and_eq_false_iff, Bool.or_eq_true, Bool.or_eq_false_iff, decide_eq_true_eq, decide_eq_false_iff_not, ne_eq]; omega) | exact bR0 (by simp [bI, *]; done) | exact bR1 (by simp [bI, *]; done)) (by rfl) (fun _ e => Option.some.inj e) (Nat.le_of_ble_eq_true rfl) (Nat.le_of_ble_eq_true rfl)
  · refine ev_iconst (v := nI 1) dX4_isFull_9 rfl ?_
    refine ev_goto (tgt := 14) dX4_isFull_10 (by decide) ?_
    exact ev_iret dX4_isFull_14 rfl (by first | rfl | exact bI_n _) (by first | exact bR0 (by simp only [bI, Bool.and_eq_true, Bool.and_eq_false_iff, Bool.or_eq_true, Bool.or_eq_false_iff, decide_eq_true_eq, decide_eq_false_iff_not, ne_eq]; omega) | exact bR1 (by simp only [bI, Bool.and_eq_true, Bool.and_eq_false_iff, Bool.or_eq_true, Bool.or_eq_false_iff, decide_eq_true_eq, decide_eq_false_iff_not, ne_eq]; omega) | exact bR0 (by simp [bI, *]; done) | exact bR1 (by simp [bI, *]; done)) (by rfl) (fun _ e => Option.some.inj e) (Nat.le_of_ble_eq_true rfl) (Nat.le_of_ble_eq_true rfl)
set_option maxHeartbeats 4000000 in
set_option maxRecDepth 20000 in
theorem c_X4_areBrothers {h : eH} {n q : Nat} {σ : St} (hP : ePp h q σ) (hB : eB σ) {a b : Nat} (ha : a < σ 0 0) (hb : b < σ 0 0) : kX4_areBrothers [.ref q, .int (nI a), .int (nI b)] h n (.inl (some (.int (bI (sBro σ a b)))), (· = h), some n) 0 0 := by
  refine eM.of RX4 "areBrothers" [(0, .ref q), (1, .int (nI a)), (2, .int (nI b))] pn_X4 rfl rfl (Nat.le_of_ble_eq_true rfl) rfl ?_
  have hm := hP.2.1.1
  obtain ⟨h0, h1, h2, h3, h4, h5⟩ := hP
  refine ev_iload_n dX4_areBrothers_0 rfl rfl ?_
  refine ev_iload_n dX4_areBrothers_1 rfl rfl ?_
  first | ((with_reducible show eV _ _ _ (Value.int (nI _) :: Value.int (nI _) :: _) _ _ _ _); refine ev_icmp_eqN (tgt := 24) dX4_areBrothers_2 (by decide) (by first | exact hB _ _ | omega) (by first | exact hB _ _ | omega) (fun c_2 => ?_) (fun c_2 => ?_)) | ((with_reducible show eV _ _ _ (Value.int (-1) :: Value.int (oI _) :: _) _ _ _ _); refine ev_icmp_eqO (tgt := 24) dX4_areBrothers_2 (by decide) (by first | assumption | (intro k9 h9; exact absurd h9 (by simp)) | (intro k9 h9; have := (fst_lt h9).1; omega) | (intro k9 h9; cases h9; omega)) (fun c_2 => ?_) (fun c_2 => ?_)) | ((with_reducible show eV _ _ _ (Value.int (oI _) :: Value.int (nI _) :: _) _ _ _ _); refine ev_icmp_eqNO (tgt := 24) dX4_areBrothers_2 (by decide) (by first | exact hB _ _ | omega) (by first | assumption | (intro k9 h9; exact absurd h9 (by simp)) | (intro k9 h9; have := (fst_lt h9).1; omega) | (intro k9 h9; cases h9; omega)) (fun c_2 => ?_) (fun c_2 => ?_)) | ((with_reducible show eV _ _ _ (Value.int (nI _) :: _) _ _ _ _); refine ev_icmp_eqZN (tgt := 24) dX4_areBrothers_2 (by decide) (by first | exact hB _ _ | omega) (fun c_2 => ?_) (fun c_2 => ?_)) | ((with_reducible show eV _ _ _ (_ :: Value.int (nI _) :: _) _ _ _ _); refine ev_icmp_eqNZ (tgt := 24) dX4_areBrothers_2 (by decide) (by first | exact hB _ _ | omega) (fun c_2 => ?_) (fun c_2 => ?_)) | (refine ev_icmp_eqZZ (tgt := 24) dX4_areBrothers_2 (by decide) (fun c_2 => ?_) (fun c_2 => ?_))
  · refine ev_iconst (v := nI 0) dX4_areBrothers_24 rfl ?_
    exact ev_iret dX4_areBrothers_25 rfl (by first | rfl | exact bI_n _) (by first | exact bR0 (by simp only [sBro, Bool.and_eq_true, Bool.and_eq_false_iff, Bool.or_eq_true, Bool.or_eq_false_iff, decide_eq_true_eq, decide_eq_false_iff_not, ne_eq]; omega) | exact bR1 (by simp only [sBro, Bool.and_eq_true, Bool.and_eq_false_iff, Bool.or_eq_true, Bool.or_eq_false_iff, decide_eq_true_eq, decide_eq_false_iff_not, ne_eq]; omega) | exact bR0 (by simp [sBro, *]; done) | exact bR1 (by simp [sBro, *]; done)) (by rfl) (fun _ e => Option.some.inj e) (Nat.le_of_ble_eq_true rfl) (Nat.le_of_ble_eq_true rfl)
  · refine ev_aload_n dX4_areBrothers_5 rfl rfl ?_
    refine ev_getfield dX4_areBrothers_6 fl_X4_19 (by first | assumption | omega) rfl ?_
    refine ev_iload_n dX4_areBrothers_9 rfl rfl ?_
    refine ev_ialoadA dX4_areBrothers_10 (by first | assumption | omega) (by first | assumption | omega) ?_
    refine ev_aload_n dX4_areBrothers_11 rfl rfl ?_
    refine ev_getfield dX4_areBrothers_12 fl_X4_19 (by first | assumption | omega) rfl ?_
    refine ev_iload_n dX4_areBrothers_15 rfl rfl ?_
    refine ev_ialoadA dX4_areBrothers_16 (by first | assumption | omega) (by first | assumption | omega) ?_
    first | ((with_reducible show eV _ _ _ (Value.int (nI _) :: Value.int (nI _) :: _) _ _ _ _); refine ev_icmp_neN (tgt := 24) dX4_areBrothers_17 (by decide) (by first | exact hB _ _ | omega) (by first | exact hB _ _ | omega) (fun c_17 => ?_) (fun c_17 => ?_)) | ((with_reducible show eV _ _ _ (Value.int (-1) :: Value.int (oI _) :: _) _ _ _ _); refine ev_icmp_neO (tgt := 24) dX4_areBrothers_17 (by decide) (by first | assumption | (intro k9 h9; exact absurd h9 (by simp)) | (intro k9 h9; have := (fst_lt h9).1; omega) | (intro k9 h9; cases h9; omega)) (fun c_17 => ?_) (fun c_17 => ?_)) | ((with_reducible show eV _ _ _ (Value.int (nI _) :: _) _ _ _ _); refine ev_icmp_neZN (tgt := 24) dX4_areBrothers_17 (by decide) (by first | exact hB _ _ | omega) (fun c_17 => ?_) (fun c_17 => ?_)) | ((with_reducible show eV _ _ _ (_ :: Value.int (nI _) :: _) _ _ _ _); refine ev_icmp_neNZ (tgt := 24) dX4_areBrothers_17 (by decide) (by first | exact hB _ _ | omega) (fun c_17 => ?_) (fun c_17 => ?_)) | (refine ev_icmp_neZZ (tgt := 24) dX4_areBrothers_17 (by decide) (fun c_17 => ?_) (fun c_17 => ?_))
    · refine ev_iconst (v := nI 0) dX4_areBrothers_24 rfl ?_
      exact ev_iret dX4_areBrothers_25 rfl (by first | rfl | exact bI_n _) (by first | exact bR0 (by simp only [sBro, Bool.and_eq_true, Bool.and_eq_false_iff, Bool.or_eq_true, Bool.or_eq_false_iff, decide_eq_true_eq, decide_eq_false_iff_not, ne_eq]; omega) | exact bR1 (by simp only [sBro, Bool.and_eq_true, Bool.and_eq_false_iff, Bool.or_eq_true, Bool.or_eq_false_iff, decide_eq_true_eq, decide_eq_false_iff_not, ne_eq]; omega) | exact bR0 (by simp [sBro, *]; done) | exact bR1 (by simp [sBro, *]; done)) (by rfl) (fun _ e => Option.some.inj e) (Nat.le_of_ble_eq_true rfl) (Nat.le_of_ble_eq_true rfl)
    · refine ev_iconst (v := nI 1) dX4_areBrothers_20 rfl ?_
      refine ev_goto (tgt := 25) dX4_areBrothers_21 (by decide) ?_
      exact ev_iret dX4_areBrothers_25 rfl (by first | rfl | exact bI_n _) (by first | exact bR0 (by simp only [sBro, Bool.and_eq_true, Bool.and_eq_false_iff, Bool.or_eq_true, Bool.or_eq_false_iff, decide_eq_true_eq, decide_eq_false_iff_not, ne_eq]; omega) | exact bR1 (by simp only [sBro, Bool.and_eq_true, Bool.and_eq_false_iff, Bool.or_eq_true, Bool.or_eq_false_iff, decide_eq_true_eq, decide_eq_false_iff_not, ne_eq]; omega) | exact bR0 (by simp [sBro, *]; done) | exact bR1 (by simp [sBro, *]; done)) (by rfl) (fun _ e => Option.some.inj e) (Nat.le_of_ble_eq_true rfl) (Nat.le_of_ble_eq_true rfl)
set_option maxHeartbeats 4000000 in
set_option maxRecDepth 20000 in
theorem c_X2_isAlive {h : eH} {n q : Nat} {σ : St} (hN : eNm h q σ) (hB : eB σ) {k : Nat} (hk : k < σ 0 1) : kX2_isAlive [.ref q, .int (nI k)] h n (.inl (some (.int (bI (sAlive σ k)))), (· = h), some n) 0 0 := by
  refine eM.of RX2 "isAlive" [(0, .ref q), (1, .int (nI k))] pn_X2 rfl rfl (Nat.le_of_ble_eq_true rfl) rfl ?_
  obtain ⟨h0, h1, h2, h3, h4, h5, h6, h7, h8, h9⟩ := hN
  refine ev_aload_n dX2_isAlive_0 rfl rfl ?_
  refine ev_getfield dX2_isAlive_1 fl_X2_34 (by first | assumption | omega) rfl ?_
  refine ev_iload_n dX2_isAlive_4 rfl rfl ?_
  refine ev_ialoadA dX2_isAlive_5 (by first | assumption | omega) (by first | assumption | omega) ?_
  refine ev_iconst (v := nI 1) dX2_isAlive_6 rfl ?_
  first | ((with_reducible show eV _ _ _ (Value.int (nI _) :: Value.int (nI _) :: _) _ _ _ _); refine ev_icmp_gtN (tgt := 14) dX2_isAlive_7 (by decide) (by first | exact hB _ _ | omega) (by first | exact hB _ _ | omega) (fun c_7 => ?_) (fun c_7 => ?_)) | ((with_reducible show eV _ _ _ (Value.int (nI _) :: _) _ _ _ _); refine ev_icmp_gtZN (tgt := 14) dX2_isAlive_7 (by decide) (by first | exact hB _ _ | omega) (fun c_7 => ?_) (fun c_7 => ?_)) | ((with_reducible show eV _ _ _ (_ :: Value.int (nI _) :: _) _ _ _ _); refine ev_icmp_gtNZ (tgt := 14) dX2_isAlive_7 (by decide) (by first | exact hB _ _ | omega) (fun c_7 => ?_) (fun c_7 => ?_)) | (refine ev_icmp_gtZZ (tgt := 14) dX2_isAlive_7 (by decide) (fun c_7 => ?_) (fun c_7 => ?_))
  · refine ev_iconst (v := nI 0) dX2_isAlive_14 rfl ?_
    exact ev_iret dX2_isAlive_15 rfl (by first | rfl | exact bI_n _) (by first | exact bR0 (by simp only [sAlive, Bool.and_eq_true, Bool.and_eq_false_iff, Bool.or_eq_true, Bool.or_eq_false_iff, decide_eq_true_eq, decide_eq_false_iff_not, ne_eq]; omega) | exact bR1 (by simp only [sAlive, Bool.and_eq_true, Bool.and_eq_false_iff, Bool.or_eq_true, Bool.or_eq_false_iff, decide_eq_true_eq, decide_eq_false_iff_not, ne_eq]; omega) | exact bR0 (by simp [sAlive, *]; done) | exact bR1 (by simp [sAlive, *]; done)) (by rfl) (fun _ e => Option.some.inj e) (Nat.le_of_ble_eq_true rfl) (Nat.le_of_ble_eq_true rfl)
  · refine ev_iconst (v := nI 1) dX2_isAlive_10 rfl ?_
    refine ev_goto (tgt := 15) dX2_isAlive_11 (by decide) ?_
    exact ev_iret dX2_isAlive_15 rfl (by first | rfl | exact bI_n _) (by first | exact bR0 (by simp only [sAlive, Bool.and_eq_true, Bool.and_eq_false_iff, Bool.or_eq_true, Bool.or_eq_false_iff, decide_eq_true_eq, decide_eq_false_iff_not, ne_eq]; omega) | exact bR1 (by simp only [sAlive, Bool.and_eq_true, Bool.and_eq_false_iff, Bool.or_eq_true, Bool.or_eq_false_iff, decide_eq_true_eq, decide_eq_false_iff_not, ne_eq]; omega) | exact bR0 (by simp [sAlive, *]; done) | exact bR1 (by simp [sAlive, *]; done)) (by rfl) (fun _ e => Option.some.inj e) (Nat.le_of_ble_eq_true rfl) (Nat.le_of_ble_eq_true rfl)
set_option maxHeartbeats 4000000 in
set_option maxRecDepth 20000 in
theorem c_X2_isAliveAs {h : eH} {n q : Nat} {σ : St} (hN : eNm h q σ) (hB : eB σ) {k m c : Nat} (hk : k < σ 0 1) (hm : m < 2 ^ 31) (hc : c < 2 ^ 31) : kX2_isAliveAs [.ref q, .int (nI k), .int (nI m), .int (nI c)] h n (.inl (some (.int (bI (sIs σ k m c)))), (· = h), some n) 0 0 := by
  refine eM.of RX2 "isAliveAs" [(0, .ref q), (1, .int (nI k)), (2, .int (nI m)), (3, .int (nI c))] pn_X2 rfl rfl (Nat.le_of_ble_eq_true rfl) rfl ?_
  obtain ⟨h0, h1, h2, h3, h4, h5, h6, h7, h8, h9⟩ := hN
  refine ev_aload_n dX2_isAliveAs_0 rfl rfl ?_
  refine ev_getfield dX2_isAliveAs_1 fl_X2_34 (by first | assumption | omega) rfl ?_
  refine ev_iload_n dX2_isAliveAs_4 rfl rfl ?_
  refine ev_ialoadA dX2_isAliveAs_5 (by first | assumption | omega) (by first | assumption | omega) ?_
  refine ev_iconst (v := nI 1) dX2_isAliveAs_6 rfl ?_
  first | ((with_reducible show eV _ _ _ (Value.int (nI _) :: Value.int (nI _) :: _) _ _ _ _); refine ev_icmp_gtN (tgt := 34) dX2_isAliveAs_7 (by decide) (by first | exact hB _ _ | omega) (by first | exact hB _ _ | omega) (fun c_7 => ?_) (fun c_7 => ?_)) | ((with_reducible show eV _ _ _ (Value.int (nI _) :: _) _ _ _ _); refine ev_icmp_gtZN (tgt := 34) dX2_isAliveAs_7 (by decide) (by first | exact hB _ _ | omega) (fun c_7 => ?_) (fun c_7 => ?_)) | ((with_reducible show eV _ _ _ (_ :: Value.int (nI _) :: _) _ _ _ _); refine ev_icmp_gtNZ (tgt := 34) dX2_isAliveAs_7 (by decide) (by first | exact hB _ _ | omega) (fun c_7 => ?_) (fun c_7 => ?_)) | (refine ev_icmp_gtZZ (tgt := 34) dX2_isAliveAs_7 (by decide) (fun c_7 => ?_) (fun c_7 => ?_))
  · refine ev_iconst (v := nI 0) dX2_isAliveAs_34 rfl ?_
    exact ev_iret dX2_isAliveAs_35 rfl (by first | rfl | exact bI_n _) (by first | exact bR0 (by simp only [sIs, sAlive, Bool.and_eq_true, Bool.and_eq_false_iff, Bool.or_eq_true, Bool.or_eq_false_iff, decide_eq_true_eq, decide_eq_false_iff_not, ne_eq]; omega) | exact bR1 (by simp only [sIs, sAlive, Bool.and_eq_true, Bool.and_eq_false_iff, Bool.or_eq_true, Bool.or_eq_false_iff, decide_eq_true_eq, decide_eq_false_iff_not, ne_eq]; omega) | exact bR0 (by simp [sIs, sAlive, *]; done) | exact bR1 (by simp [sIs, sAlive, *]; done)) (by rfl) (fun _ e => Option.some.inj e) (Nat.le_of_ble_eq_true rfl) (Nat.le_of_ble_eq_true rfl)
  · refine ev_aload_n dX2_isAliveAs_10 rfl rfl ?_
    refine ev_getfield dX2_isAliveAs_11 fl_X2_15 (by first | assumption | omega) rfl ?_
    refine ev_iload_n dX2_isAliveAs_14 rfl rfl ?_
    refine ev_ialoadA dX2_isAliveAs_15 (by first | assumption | omega) (by first | assumption | omega) ?_
    refine ev_iload_n dX2_isAliveAs_16 rfl rfl ?_
    first | ((with_reducible show eV _ _ _ (Value.int (nI _) :: Value.int (nI _) :: _) _ _ _ _); refine ev_icmp_neN (tgt := 34) dX2_isAliveAs_17 (by decide) (by first | exact hB _ _ | omega) (by first | exact hB _ _ | omega) (fun c_17 => ?_) (fun c_17 => ?_)) | ((with_reducible show eV _ _ _ (Value.int (-1) :: Value.int (oI _) :: _) _ _ _ _); refine ev_icmp_neO (tgt := 34) dX2_isAliveAs_17 (by decide) (by first | assumption | (intro k9 h9; exact absurd h9 (by simp)) | (intro k9 h9; have := (fst_lt h9).1; omega) | (intro k9 h9; cases h9; omega)) (fun c_17 => ?_) (fun c_17 => ?_)) | ((with_reducible show eV _ _ _ (Value.int (nI _) :: _) _ _ _ _); refine ev_icmp_neZN (tgt := 34) dX2_isAliveAs_17 (by decide) (by first | exact hB _ _ | omega) (fun c_17 => ?_) (fun c_17 => ?_)) | ((with_reducible show eV _ _ _ (_ :: Value.int (nI _) :: _) _ _ _ _); refine ev_icmp_neNZ (tgt := 34) dX2_isAliveAs_17 (by decide) (by first | exact hB _ _ | omega) (fun c_17 => ?_) (fun c_17 => ?_)) | (refine ev_icmp_neZZ (tgt := 34) dX2_isAliveAs_17 (by decide) (fun c_17 => ?_) (fun c_17 => ?_))
    · refine ev_iconst (v := nI 0) dX2_isAliveAs_34 rfl ?_
      exact ev_iret dX2_isAliveAs_35 rfl (by first | rfl | exact bI_n _) (by first | exact bR0 (by simp only [sIs, sAlive, Bool.and_eq_true, Bool.and_eq_false_iff, Bool.or_eq_true, Bool.or_eq_false_iff, decide_eq_true_eq, decide_eq_false_iff_not, ne_eq]; omega) | exact bR1 (by simp only [sIs, sAlive, Bool.and_eq_true, Bool.and_eq_false_iff, Bool.or_eq_true, Bool.or_eq_false_iff, decide_eq_true_eq, decide_eq_false_iff_not, ne_eq]; omega) | exact bR0 (by simp [sIs, sAlive, *]; done) | exact bR1 (by simp [sIs, sAlive, *]; done)) (by rfl) (fun _ e => Option.some.inj e) (Nat.le_of_ble_eq_true rfl) (Nat.le_of_ble_eq_true rfl)
    · refine ev_aload_n dX2_isAliveAs_20 rfl rfl ?_
      refine ev_getfield dX2_isAliveAs_21 fl_X2_19 (by first | assumption | omega) rfl ?_
      refine ev_iload_n dX2_isAliveAs_24 rfl rfl ?_
      refine ev_ialoadA dX2_isAliveAs_25 (by first | assumption | omega) (by first | assumption | omega) ?_
      refine ev_iload_n dX2_isAliveAs_26 rfl rfl ?_
      first | ((with_reducible show eV _ _ _ (Value.int (nI _) :: Value.int (nI _) :: _) _ _ _ _); refine ev_icmp_neN (tgt := 34) dX2_isAliveAs_27 (by decide) (by first | exact hB _ _ | omega) (by first | exact hB _ _ | omega) (fun c_27 => ?_) (fun c_27 => ?_)) | ((with_reducible show eV _ _ _ (Value.int (-1) :: Value.int (oI _) :: _) _ _ _ _); refine ev_icmp_neO (tgt := 34) dX2_isAliveAs_27 (by decide) (by first | assumption | (intro k9 h9; exact absurd h9 (by simp)) | (intro k9 h9; have := (fst_lt h9).1; omega) | (intro k9 h9; cases h9; omega)) (fun c_27 => ?_) (fun c_27 => ?_)) | ((with_reducible show eV _ _ _ (Value.int (nI _) :: _) _ _ _ _); refine ev_icmp_neZN (tgt := 34) dX2_isAliveAs_27 (by decide) (by first | exact hB _ _ | omega) (fun c_27 => ?_) (fun c_27 => ?_)) | ((with_reducible show eV _ _ _ (_ :: Value.int (nI _) :: _) _ _ _ _); refine ev_icmp_neNZ (tgt := 34) dX2_isAliveAs_27 (by decide) (by first | exact hB _ _ | omega) (fun c_27 => ?_) (fun c_27 => ?_)) | (refine ev_icmp_neZZ (tgt := 34) dX2_isAliveAs_27 (by decide) (fun c_27 => ?_) (fun c_27 => ?_))
      · refine ev_iconst (v := nI 0) dX2_isAliveAs_34 rfl ?_
        exact ev_iret dX2_isAliveAs_35 rfl (by first | rfl | exact bI_n _) (by first | exact bR0 (by simp only [sIs, sAlive, Bool.and_eq_true, Bool.and_eq_false_iff, Bool.or_eq_true, Bool.or_eq_false_iff, decide_eq_true_eq, decide_eq_false_iff_not, ne_eq]; omega) | exact bR1 (by simp only [sIs, sAlive, Bool.and_eq_true, Bool.and_eq_false_iff, Bool.or_eq_true, Bool.or_eq_false_iff, decide_eq_true_eq, decide_eq_false_iff_not, ne_eq]; omega) | exact bR0 (by simp [sIs, sAlive, *]; done) | exact bR1 (by simp [sIs, sAlive, *]; done)) (by rfl) (fun _ e => Option.some.inj e) (Nat.le_of_ble_eq_true rfl) (Nat.le_of_ble_eq_true rfl)
      · refine ev_iconst (v := nI 1) dX2_isAliveAs_30 rfl ?_
        refine ev_goto (tgt := 35) dX2_isAliveAs_31 (by decide) ?_
        exact ev_iret dX2_isAliveAs_35 rfl (by first | rfl | exact bI_n _) (by first | exact bR0 (by simp only [sIs, sAlive, Bool.and_eq_true, Bool.and_eq_false_iff, Bool.or_eq_true, Bool.or_eq_false_iff, decide_eq_true_eq, decide_eq_false_iff_not, ne_eq]; omega) | exact bR1 (by simp only [sIs, sAlive, Bool.and_eq_true, Bool.and_eq_false_iff, Bool.or_eq_true, Bool.or_eq_false_iff, decide_eq_true_eq, decide_eq_false_iff_not, ne_eq]; omega) | exact bR0 (by simp [sIs, sAlive, *]; done) | exact bR1 (by simp [sIs, sAlive, *]; done)) (by rfl) (fun _ e => Option.some.inj e) (Nat.le_of_ble_eq_true rfl) (Nat.le_of_ble_eq_true rfl)
set_option maxHeartbeats 4000000 in
set_option maxRecDepth 20000 in
theorem c_X2_aliveOf {h : eH} {n q : Nat} {σ : St} (hN : eNm h q σ) (hB : eB σ) {p : Nat} (hp : p < 2 ^ 31) : kX2_aliveOf [.ref q, .int (nI p)] h n (.inl (some (.int (nI (sLives σ p)))), (· = h), some n) 0 0 := by
  refine eM.of RX2 "aliveOf" [(0, .ref q), (1, .int (nI p))] pn_X2 rfl rfl (Nat.le_of_ble_eq_true rfl) rfl ?_
  have hm := hN.2.1.1
  obtain ⟨h0, h1, h2, h3, h4, h5, h6, h7, h8, h9⟩ := hN
  refine ev_iconst (v := nI 0) dX2_aliveOf_0 rfl ?_
  refine ev_istore_n dX2_aliveOf_1 rfl (Nat.le_of_ble_eq_true rfl) ?_
  refine ev_iconst (v := nI 0) dX2_aliveOf_2 rfl ?_
  refine ev_istore_n dX2_aliveOf_3 rfl (Nat.le_of_ble_eq_true rfl) ?_
  have H_4 : ∀ (d_4 : Nat) (k f : Nat), d_4 = σ 0 1 - k → (k ≤ σ 0 1) → (f = cnt (fun k => decide (σ 9 k = p) && sAlive σ k) k) → eV mX2_aliveOf 4 [(0, .ref q), (1, .int (nI p)), (2, .int (nI f)), (3, .int (nI k))] [] (h, n, 0, 0) (.inl (some (.int (nI (sLives σ p)))), (· = h), some n) 0 0 := by
    intro d_4
    induction d_4 using Nat.strongRecOn with
    | _ d_4 ih_4 =>
    intro k f hd_4 hk hf
    refine ev_iload_n dX2_aliveOf_4 rfl rfl ?_
    refine ev_aload_n dX2_aliveOf_5 rfl rfl ?_
    refine ev_getfield dX2_aliveOf_6 fl_X2_9 (by first | assumption | omega) rfl ?_
    first | ((with_reducible show eV _ _ _ (Value.int (nI _) :: Value.int (nI _) :: _) _ _ _ _); refine ev_icmp_geN (tgt := 41) dX2_aliveOf_9 (by decide) (by first | exact hB _ _ | omega) (by first | exact hB _ _ | omega) (fun c_9 => ?_) (fun c_9 => ?_)) | ((with_reducible show eV _ _ _ (Value.int (nI _) :: _) _ _ _ _); refine ev_icmp_geZN (tgt := 41) dX2_aliveOf_9 (by decide) (by first | exact hB _ _ | omega) (fun c_9 => ?_) (fun c_9 => ?_)) | ((with_reducible show eV _ _ _ (_ :: Value.int (nI _) :: _) _ _ _ _); refine ev_icmp_geNZ (tgt := 41) dX2_aliveOf_9 (by decide) (by first | exact hB _ _ | omega) (fun c_9 => ?_) (fun c_9 => ?_)) | (refine ev_icmp_geZZ (tgt := 41) dX2_aliveOf_9 (by decide) (fun c_9 => ?_) (fun c_9 => ?_))
    · refine ev_iload_n dX2_aliveOf_41 rfl rfl ?_
      exact ev_iret dX2_aliveOf_42 rfl rfl (by exact nR (by have e : k = σ 0 1 := (by omega); rw [sLives, hf, ← e])) (by rfl) (fun _ e => Option.some.inj e) (Nat.le_of_ble_eq_true rfl) (Nat.le_of_ble_eq_true rfl)
    · refine ev_aload_n dX2_aliveOf_12 rfl rfl ?_
      refine ev_getfield dX2_aliveOf_13 fl_X2_25 (by first | assumption | omega) rfl ?_
      refine ev_iload_n dX2_aliveOf_16 rfl rfl ?_
      refine ev_ialoadA dX2_aliveOf_17 (by first | assumption | omega) (by first | assumption | omega) ?_
      refine ev_iload_n dX2_aliveOf_18 rfl rfl ?_
      first | ((with_reducible show eV _ _ _ (Value.int (nI _) :: Value.int (nI _) :: _) _ _ _ _); refine ev_icmp_neN (tgt := 35) dX2_aliveOf_19 (by decide) (by first | exact hB _ _ | omega) (by first | exact hB _ _ | omega) (fun c_19 => ?_) (fun c_19 => ?_)) | ((with_reducible show eV _ _ _ (Value.int (-1) :: Value.int (oI _) :: _) _ _ _ _); refine ev_icmp_neO (tgt := 35) dX2_aliveOf_19 (by decide) (by first | assumption | (intro k9 h9; exact absurd h9 (by simp)) | (intro k9 h9; have := (fst_lt h9).1; omega) | (intro k9 h9; cases h9; omega)) (fun c_19 => ?_) (fun c_19 => ?_)) | ((with_reducible show eV _ _ _ (Value.int (nI _) :: _) _ _ _ _); refine ev_icmp_neZN (tgt := 35) dX2_aliveOf_19 (by decide) (by first | exact hB _ _ | omega) (fun c_19 => ?_) (fun c_19 => ?_)) | ((with_reducible show eV _ _ _ (_ :: Value.int (nI _) :: _) _ _ _ _); refine ev_icmp_neNZ (tgt := 35) dX2_aliveOf_19 (by decide) (by first | exact hB _ _ | omega) (fun c_19 => ?_) (fun c_19 => ?_)) | (refine ev_icmp_neZZ (tgt := 35) dX2_aliveOf_19 (by decide) (fun c_19 => ?_) (fun c_19 => ?_))
      · first | refine ev_iincN dX2_aliveOf_35 rfl (Nat.le_of_ble_eq_true rfl) ?_ | refine ev_iinc dX2_aliveOf_35 rfl rfl (Nat.le_of_ble_eq_true rfl) ?_
        refine ev_goto (tgt := 4) dX2_aliveOf_38 (by decide) ?_
        exact (ih_4 _ (by omega) _ _  rfl (by first | omega | assumption | rfl) (by first | (rw [cnt_f (by simp only [sAlive, Bool.and_eq_false_iff, decide_eq_false_iff_not]; omega)]; exact hf) | (rw [cnt_t (by simp only [sAlive, Bool.and_eq_true, decide_eq_true_eq]; omega), ← hf]))).sub1 ⟨rfl, rfl, rfl, rfl, trivial⟩ rfl
      · refine ev_aload_n dX2_aliveOf_22 rfl rfl ?_
        refine ev_getfield dX2_aliveOf_23 fl_X2_34 (by first | assumption | omega) rfl ?_
        refine ev_iload_n dX2_aliveOf_26 rfl rfl ?_
        refine ev_ialoadA dX2_aliveOf_27 (by first | assumption | omega) (by first | assumption | omega) ?_
        refine ev_iconst (v := nI 1) dX2_aliveOf_28 rfl ?_
        first | ((with_reducible show eV _ _ _ (Value.int (nI _) :: Value.int (nI _) :: _) _ _ _ _); refine ev_icmp_gtN (tgt := 35) dX2_aliveOf_29 (by decide) (by first | exact hB _ _ | omega) (by first | exact hB _ _ | omega) (fun c_29 => ?_) (fun c_29 => ?_)) | ((with_reducible show eV _ _ _ (Value.int (nI _) :: _) _ _ _ _); refine ev_icmp_gtZN (tgt := 35) dX2_aliveOf_29 (by decide) (by first | exact hB _ _ | omega) (fun c_29 => ?_) (fun c_29 => ?_)) | ((with_reducible show eV _ _ _ (_ :: Value.int (nI _) :: _) _ _ _ _); refine ev_icmp_gtNZ (tgt := 35) dX2_aliveOf_29 (by decide) (by first | exact hB _ _ | omega) (fun c_29 => ?_) (fun c_29 => ?_)) | (refine ev_icmp_gtZZ (tgt := 35) dX2_aliveOf_29 (by decide) (fun c_29 => ?_) (fun c_29 => ?_))
        · first | refine ev_iincN dX2_aliveOf_35 rfl (Nat.le_of_ble_eq_true rfl) ?_ | refine ev_iinc dX2_aliveOf_35 rfl rfl (Nat.le_of_ble_eq_true rfl) ?_
          refine ev_goto (tgt := 4) dX2_aliveOf_38 (by decide) ?_
          exact (ih_4 _ (by omega) _ _  rfl (by first | omega | assumption | rfl) (by first | (rw [cnt_f (by simp only [sAlive, Bool.and_eq_false_iff, decide_eq_false_iff_not]; omega)]; exact hf) | (rw [cnt_t (by simp only [sAlive, Bool.and_eq_true, decide_eq_true_eq]; omega), ← hf]))).sub1 ⟨rfl, rfl, rfl, rfl, trivial⟩ rfl
        · first | refine ev_iincN dX2_aliveOf_32 rfl (Nat.le_of_ble_eq_true rfl) ?_ | refine ev_iinc dX2_aliveOf_32 rfl rfl (Nat.le_of_ble_eq_true rfl) ?_
          first | refine ev_iincN dX2_aliveOf_35 rfl (Nat.le_of_ble_eq_true rfl) ?_ | refine ev_iinc dX2_aliveOf_35 rfl rfl (Nat.le_of_ble_eq_true rfl) ?_
          refine ev_goto (tgt := 4) dX2_aliveOf_38 (by decide) ?_
          exact (ih_4 _ (by omega) _ _  rfl (by first | omega | assumption | rfl) (by first | (rw [cnt_f (by simp only [sAlive, Bool.and_eq_false_iff, decide_eq_false_iff_not]; omega)]; exact hf) | (rw [cnt_t (by simp only [sAlive, Bool.and_eq_true, decide_eq_true_eq]; omega), ← hf]))).sub1 ⟨rfl, rfl, rfl, rfl, trivial⟩ rfl
  exact (H_4 _ 0 0 rfl (by first | omega | assumption | rfl) (by first | omega | assumption | rfl)).sub1 ⟨rfl, rfl, rfl, rfl, trivial⟩ rfl
set_option maxHeartbeats 4000000 in
set_option maxRecDepth 20000 in
theorem c_X2_aliveNameOf {h : eH} {n q : Nat} {σ : St} (hN : eNm h q σ) (hB : eB σ) {p m c : Nat} (hp : p < 2 ^ 31) (hm : m < 2 ^ 31) (hc : c < 2 ^ 31) : kX2_aliveNameOf [.ref q, .int (nI p), .int (nI m), .int (nI c)] h n (.inl (some (.int (oI (sNameOf σ p m c)))), (· = h), some n) 0 0 := by
  refine eM.of RX2 "aliveNameOf" [(0, .ref q), (1, .int (nI p)), (2, .int (nI m)), (3, .int (nI c))] pn_X2 rfl rfl (Nat.le_of_ble_eq_true rfl) rfl ?_
  have hz := hN.2.1.1
  obtain ⟨h0, h1, h2, h3, h4, h5, h6, h7, h8, h9⟩ := id hN
  refine ev_iconst (v := nI 0) dX2_aliveNameOf_0 rfl ?_
  refine ev_istore dX2_aliveNameOf_1 (Nat.le_of_ble_eq_true rfl) ?_
  have H_3 : ∀ (d_3 : Nat) (k : Nat), d_3 = σ 0 1 - k → (k ≤ σ 0 1) → (fst (fun k => decide (σ 9 k = p) && sIs σ k m c) k = none) → eV mX2_aliveNameOf 3 [(0, .ref q), (1, .int (nI p)), (2, .int (nI m)), (3, .int (nI c)), (4, .int (nI k))] [] (h, n, 0, 0) (.inl (some (.int (oI (sNameOf σ p m c)))), (· = h), some n) 0 0 := by
    intro d_3
    induction d_3 using Nat.strongRecOn with
    | _ d_3 ih_3 =>
    intro k hd_3 hk hf
    refine ev_iload dX2_aliveNameOf_3 rfl ?_
    refine ev_aload_n dX2_aliveNameOf_5 rfl rfl ?_
    refine ev_getfield dX2_aliveNameOf_6 fl_X2_9 (by first | assumption | omega) rfl ?_
    first | ((with_reducible show eV _ _ _ (Value.int (nI _) :: Value.int (nI _) :: _) _ _ _ _); refine ev_icmp_geN (tgt := 43) dX2_aliveNameOf_9 (by decide) (by first | exact hB _ _ | omega) (by first | exact hB _ _ | omega) (fun c_9 => ?_) (fun c_9 => ?_)) | ((with_reducible show eV _ _ _ (Value.int (nI _) :: _) _ _ _ _); refine ev_icmp_geZN (tgt := 43) dX2_aliveNameOf_9 (by decide) (by first | exact hB _ _ | omega) (fun c_9 => ?_) (fun c_9 => ?_)) | ((with_reducible show eV _ _ _ (_ :: Value.int (nI _) :: _) _ _ _ _); refine ev_icmp_geNZ (tgt := 43) dX2_aliveNameOf_9 (by decide) (by first | exact hB _ _ | omega) (fun c_9 => ?_) (fun c_9 => ?_)) | (refine ev_icmp_geZZ (tgt := 43) dX2_aliveNameOf_9 (by decide) (fun c_9 => ?_) (fun c_9 => ?_))
    · refine ev_iconst (v := -1) dX2_aliveNameOf_43 (by decide) ?_
      exact ev_iret dX2_aliveNameOf_44 rfl rfl (by exact oRn (by have e : k = σ 0 1 := (by omega); rw [sNameOf, ← e]; exact hf)) (by rfl) (fun _ e => Option.some.inj e) (Nat.le_of_ble_eq_true rfl) (Nat.le_of_ble_eq_true rfl)
    · refine ev_aload_n dX2_aliveNameOf_12 rfl rfl ?_
      refine ev_getfield dX2_aliveNameOf_13 fl_X2_25 (by first | assumption | omega) rfl ?_
      refine ev_iload dX2_aliveNameOf_16 rfl ?_
      refine ev_ialoadA dX2_aliveNameOf_18 (by first | assumption | omega) (by first | assumption | omega) ?_
      refine ev_iload_n dX2_aliveNameOf_19 rfl rfl ?_
      first | ((with_reducible show eV _ _ _ (Value.int (nI _) :: Value.int (nI _) :: _) _ _ _ _); refine ev_icmp_neN (tgt := 37) dX2_aliveNameOf_20 (by decide) (by first | exact hB _ _ | omega) (by first | exact hB _ _ | omega) (fun c_20 => ?_) (fun c_20 => ?_)) | ((with_reducible show eV _ _ _ (Value.int (-1) :: Value.int (oI _) :: _) _ _ _ _); refine ev_icmp_neO (tgt := 37) dX2_aliveNameOf_20 (by decide) (by first | assumption | (intro k9 h9; exact absurd h9 (by simp)) | (intro k9 h9; have := (fst_lt h9).1; omega) | (intro k9 h9; cases h9; omega)) (fun c_20 => ?_) (fun c_20 => ?_)) | ((with_reducible show eV _ _ _ (Value.int (nI _) :: _) _ _ _ _); refine ev_icmp_neZN (tgt := 37) dX2_aliveNameOf_20 (by decide) (by first | exact hB _ _ | omega) (fun c_20 => ?_) (fun c_20 => ?_)) | ((with_reducible show eV _ _ _ (_ :: Value.int (nI _) :: _) _ _ _ _); refine ev_icmp_neNZ (tgt := 37) dX2_aliveNameOf_20 (by decide) (by first | exact hB _ _ | omega) (fun c_20 => ?_) (fun c_20 => ?_)) | (refine ev_icmp_neZZ (tgt := 37) dX2_aliveNameOf_20 (by decide) (fun c_20 => ?_) (fun c_20 => ?_))
      · first | refine ev_iincN dX2_aliveNameOf_37 rfl (Nat.le_of_ble_eq_true rfl) ?_ | refine ev_iinc dX2_aliveNameOf_37 rfl rfl (Nat.le_of_ble_eq_true rfl) ?_
        refine ev_goto (tgt := 3) dX2_aliveNameOf_40 (by decide) ?_
        exact (ih_3 _ (by omega) _  rfl (by first | omega | assumption | rfl) (by exact fst_s hf (by first | (simp only [Bool.and_eq_false_iff, decide_eq_false_iff_not]; omega) | (simp [*]; done)))).sub1 ⟨rfl, rfl, rfl, rfl, rfl, trivial⟩ rfl
      · refine ev_aload_n dX2_aliveNameOf_23 rfl rfl ?_
        refine ev_iload dX2_aliveNameOf_24 rfl ?_
        refine ev_iload_n dX2_aliveNameOf_26 rfl rfl ?_
        refine ev_iload_n dX2_aliveNameOf_27 rfl rfl ?_
        refine ev_callVi dX2_aliveNameOf_28 (c_X2_isAliveAs (by first | assumption | omega) (by first | assumption | omega) (by first | assumption | omega) (by first | assumption | omega) (by first | assumption | omega)) rfl lk_X2_51 (by first | assumption | omega) ⟨Nat.le_of_ble_eq_true rfl, Nat.le_of_ble_eq_true rfl⟩ rfl (Nat.le_of_ble_eq_true rfl) ⟨Nat.le_of_ble_eq_true rfl, Nat.le_of_ble_eq_true rfl⟩ (eRo ?_)
        first | ((with_reducible show eV _ _ _ (Value.int (bI _) :: _) _ _ _ _); refine ev_if_eqB (tgt := 37) dX2_aliveNameOf_31 (by decide) (fun c_31 => ?_) (fun c_31 => ?_)) | ((with_reducible show eV _ _ _ (Value.int (nI _) :: _) _ _ _ _); refine ev_if_eqN (tgt := 37) dX2_aliveNameOf_31 (by decide) (by first | exact hB _ _ | omega) (fun c_31 => ?_) (fun c_31 => ?_)) | (refine ev_if_eqZ (tgt := 37) dX2_aliveNameOf_31 (by decide) (fun c_31 => ?_) (fun c_31 => ?_))
        · first | refine ev_iincN dX2_aliveNameOf_37 rfl (Nat.le_of_ble_eq_true rfl) ?_ | refine ev_iinc dX2_aliveNameOf_37 rfl rfl (Nat.le_of_ble_eq_true rfl) ?_
          refine ev_goto (tgt := 3) dX2_aliveNameOf_40 (by decide) ?_
          exact (ih_3 _ (by omega) _  rfl (by first | omega | assumption | rfl) (by exact fst_s hf (by first | (simp only [Bool.and_eq_false_iff, decide_eq_false_iff_not]; omega) | (simp [*]; done)))).sub1 ⟨rfl, rfl, rfl, rfl, rfl, trivial⟩ rfl
        · refine ev_iload dX2_aliveNameOf_34 rfl ?_
          exact ev_iret dX2_aliveNameOf_36 rfl rfl (by exact oR (fst_up hf (by simp [*]; done) (by omega))) (by rfl) (fun _ e => Option.some.inj e) (Nat.le_of_ble_eq_true rfl) (Nat.le_of_ble_eq_true rfl)
  exact (H_3 _ 0 rfl (by first | omega | assumption | rfl) (by first | omega | assumption | rfl)).sub1 ⟨rfl, rfl, rfl, rfl, rfl, trivial⟩ rfl

