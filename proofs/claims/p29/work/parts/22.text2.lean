theorem tDigit_n {x : Nat → Nat} {ℓ lo hi : Nat} {u : Cur} (h : tDig x ℓ u.1 lo hi = none) : tDigit x ℓ lo hi u = (false, u) := by unfold tDigit; rw [h]
theorem tDigit_y {x : Nat → Nat} {ℓ lo hi d : Nat} {u : Cur} (h : tDig x ℓ u.1 lo hi = some d) : tDigit x ℓ lo hi u = tTell (tGo u 1) d := by unfold tDigit; rw [h]
theorem tDig_b {x : Nat → Nat} {ℓ p lo hi : Nat} (hhi : hi < 2 ^ 31) : ∀ k, tDig x ℓ p lo hi = some k → k < 2 ^ 31 := fun k hk => by have := (tDig_lt hk).2.2; omega
set_option maxHeartbeats 4000000 in
set_option maxRecDepth 20000 in
theorem c_X9_readsDigit {h : eH} {n q : Nat} {x : Nat → Nat} {ℓ : Nat} {k : Option Nat} {u : Cur} (hT : eTx h q x ℓ k u) {lo hi : Nat} (hlo : lo < 2 ^ 31) (hhi : hi < 2 ^ 31) : kX9_readsDigit [.ref q, .int (nI lo), .int (nI hi)] h n (.inl (some (.int (bI (tDigit x ℓ lo hi u).1))), (fun g => eTx g q x ℓ k (tDigit x ℓ lo hi u).2 ∧ eFr h g q (q + 3)), some n) 0 0 := by
  refine eM.of RX9 "readsDigit" [(0, .ref q), (1, .int (nI lo)), (2, .int (nI hi))] pn_X9 rfl rfl (Nat.le_of_ble_eq_true rfl) rfl ?_
  have FR : eFr h h q (q + 3) := eFr.rf
  refine ev_aload_n dX9_readsDigit_0 rfl rfl ?_
  refine ev_iload_n dX9_readsDigit_1 rfl rfl ?_
  refine ev_iload_n dX9_readsDigit_2 rfl rfl ?_
  refine ev_callVi dX9_readsDigit_3 (c_X9_takeDigit hT hlo hhi) rfl lk_X9_57 (by first | assumption | omega | exact eTx.ob (by assumption)) ⟨Nat.le_of_ble_eq_true rfl, Nat.le_of_ble_eq_true rfl⟩ rfl (Nat.le_of_ble_eq_true rfl) ⟨Nat.le_of_ble_eq_true rfl, Nat.le_of_ble_eq_true rfl⟩ (fun g_3 hg_3 => ?_)
  obtain ⟨w_3, fr_3⟩ := hg_3
  replace hT := w_3
  first | replace FR := eFr.trans FR (eFr.one fr_3 (by omega) (by omega)) | replace FR := eFr.trans FR (eFr.wide fr_3 (by omega) (by omega))
  refine ev_istore_n dX9_readsDigit_6 rfl (Nat.le_of_ble_eq_true rfl) ?_
  refine ev_iload_n dX9_readsDigit_7 rfl rfl ?_
  refine ev_iconst (v := -1) dX9_readsDigit_8 (by decide) ?_
  first | ((with_reducible show eV _ _ _ (Value.int (nI _) :: Value.int (nI _) :: _) _ _ _ _); refine ev_icmp_eqN (tgt := 24) dX9_readsDigit_9 (by decide) (by first | exact hB _ _ | omega) (by first | exact hB _ _ | omega) (fun c_9 => ?_) (fun c_9 => ?_)) | ((with_reducible show eV _ _ _ (Value.int (-1) :: Value.int (oI _) :: _) _ _ _ _); refine ev_icmp_eqO (tgt := 24) dX9_readsDigit_9 (by decide) (by exact tDig_b hhi) (fun c_9 => ?_) (fun c_9 => ?_)) | ((with_reducible show eV _ _ _ (Value.int (oI _) :: Value.int (nI _) :: _) _ _ _ _); refine ev_icmp_eqNO (tgt := 24) dX9_readsDigit_9 (by decide) (by first | exact hB _ _ | omega) (by exact tDig_b hhi) (fun c_9 => ?_) (fun c_9 => ?_)) | ((with_reducible show eV _ _ _ (Value.int (nI _) :: Value.int (oI _) :: _) _ _ _ _); refine ev_icmp_eqON (tgt := 24) dX9_readsDigit_9 (by decide) (by first | exact hB _ _ | omega) (by exact tDig_b hhi) (fun c_9 => ?_) (fun c_9 => ?_)) | ((with_reducible show eV _ _ _ (Value.int (nI _) :: _) _ _ _ _); refine ev_icmp_eqZN (tgt := 24) dX9_readsDigit_9 (by decide) (by first | exact hB _ _ | omega) (fun c_9 => ?_) (fun c_9 => ?_)) | ((with_reducible show eV _ _ _ (_ :: Value.int (nI _) :: _) _ _ _ _); refine ev_icmp_eqNZ (tgt := 24) dX9_readsDigit_9 (by decide) (by first | exact hB _ _ | omega) (fun c_9 => ?_) (fun c_9 => ?_)) | (refine ev_icmp_eqZZ (tgt := 24) dX9_readsDigit_9 (by decide) (fun c_9 => ?_) (fun c_9 => ?_))
  · refine ev_iconst (v := nI 0) dX9_readsDigit_24 rfl ?_
    exact ev_iret dX9_readsDigit_25 rfl (by first | rfl | exact bI_n _) (by first | exact bR0 (by rw [tDigit_n c_9]) | exact bR0 (by rw [tDigit_y hd]; exact c_17) | exact bR1 (by rw [tDigit_y hd]; exact c_17)) (by first | exact ⟨by rw [tDigit_n c_9]; rw [c_9] at hT; exact hT, FR⟩ | exact ⟨by rw [tDigit_y hd]; exact hT, FR⟩) (fun _ e => Option.some.inj e) (Nat.le_of_ble_eq_true rfl) (Nat.le_of_ble_eq_true rfl)
  · obtain ⟨d, hd⟩ := Option.ne_none_iff_exists'.mp c_9
    rw [hd] at hT
    rw [hd, show oI (some d) = nI d from rfl]
    refine ev_aload_n dX9_readsDigit_12 rfl rfl ?_
    refine ev_iload_n dX9_readsDigit_13 rfl rfl ?_
    refine ev_callVi dX9_readsDigit_14 (c_X9_tells hT) rfl lk_X9_61 (by first | assumption | omega | exact eTx.ob (by assumption)) ⟨Nat.le_of_ble_eq_true rfl, Nat.le_of_ble_eq_true rfl⟩ rfl (Nat.le_of_ble_eq_true rfl) ⟨Nat.le_of_ble_eq_true rfl, Nat.le_of_ble_eq_true rfl⟩ (fun g_14 hg_14 => ?_)
    obtain ⟨w_14, fr_14⟩ := hg_14
    replace hT := w_14
    first | replace FR := eFr.trans FR (eFr.one fr_14 (by omega) (by omega)) | replace FR := eFr.trans FR (eFr.wide fr_14 (by omega) (by omega))
    first | ((with_reducible show eV _ _ _ (Value.int (bI _) :: _) _ _ _ _); refine ev_if_eqB (tgt := 24) dX9_readsDigit_17 (by decide) (fun c_17 => ?_) (fun c_17 => ?_)) | ((with_reducible show eV _ _ _ (Value.int (nI _) :: _) _ _ _ _); refine ev_if_eqN (tgt := 24) dX9_readsDigit_17 (by decide) (by first | exact hB _ _ | omega) (fun c_17 => ?_) (fun c_17 => ?_)) | (refine ev_if_eqZ (tgt := 24) dX9_readsDigit_17 (by decide) (fun c_17 => ?_) (fun c_17 => ?_))
    · refine ev_iconst (v := nI 0) dX9_readsDigit_24 rfl ?_
      exact ev_iret dX9_readsDigit_25 rfl (by first | rfl | exact bI_n _) (by first | exact bR0 (by rw [tDigit_n c_9]) | exact bR0 (by rw [tDigit_y hd]; exact c_17) | exact bR1 (by rw [tDigit_y hd]; exact c_17)) (by first | exact ⟨by rw [tDigit_n c_9]; rw [c_9] at hT; exact hT, FR⟩ | exact ⟨by rw [tDigit_y hd]; exact hT, FR⟩) (fun _ e => Option.some.inj e) (Nat.le_of_ble_eq_true rfl) (Nat.le_of_ble_eq_true rfl)
    · refine ev_iconst (v := nI 1) dX9_readsDigit_20 rfl ?_
      refine ev_goto (tgt := 25) dX9_readsDigit_21 (by decide) ?_
      exact ev_iret dX9_readsDigit_25 rfl (by first | rfl | exact bI_n _) (by first | exact bR0 (by rw [tDigit_n c_9]) | exact bR0 (by rw [tDigit_y hd]; exact c_17) | exact bR1 (by rw [tDigit_y hd]; exact c_17)) (by first | exact ⟨by rw [tDigit_n c_9]; rw [c_9] at hT; exact hT, FR⟩ | exact ⟨by rw [tDigit_y hd]; exact hT, FR⟩) (fun _ e => Option.some.inj e) (Nat.le_of_ble_eq_true rfl) (Nat.le_of_ble_eq_true rfl)
theorem tPair_n {x : Nat → Nat} {ℓ m : Nat} {u : Cur} (h : tDig x ℓ u.1 0 (m / 10) = none) : tPair x ℓ m u = (false, u) := by unfold tPair; rw [h]
theorem tPair_m {x : Nat → Nat} {ℓ m t : Nat} {u : Cur} (h : tDig x ℓ u.1 0 (m / 10) = some t) (h2 : tDig x ℓ (u.1 + 1) 0 (if t = m / 10 then m % 10 else 9) = none) : tPair x ℓ m u = (false, tGo u 1) := by unfold tPair; rw [h]; simp only [h2]
theorem tPair_y {x : Nat → Nat} {ℓ m t d : Nat} {u : Cur} (h : tDig x ℓ u.1 0 (m / 10) = some t) (h2 : tDig x ℓ (u.1 + 1) 0 (if t = m / 10 then m % 10 else 9) = some d) : tPair x ℓ m u = tTell (tGo u 2) (10 * t + d) := by unfold tPair; rw [h]; simp only [h2]
set_option maxHeartbeats 4000000 in
set_option maxRecDepth 20000 in
theorem c_X9_readsPair {h : eH} {n q : Nat} {x : Nat → Nat} {ℓ : Nat} {k : Option Nat} {u : Cur} (hT : eTx h q x ℓ k u) {m : Nat} (hmo : m < 2 ^ 31) : kX9_readsPair [.ref q, .int (nI m)] h n (.inl (some (.int (bI (tPair x ℓ m u).1))), (fun g => eTx g q x ℓ k (tPair x ℓ m u).2 ∧ eFr h g q (q + 3)), some n) 0 0 := by
  refine eM.of RX9 "readsPair" [(0, .ref q), (1, .int (nI m))] pn_X9 rfl rfl (Nat.le_of_ble_eq_true rfl) rfl ?_
  have FR : eFr h h q (q + 3) := eFr.rf
  refine ev_aload_n dX9_readsPair_0 rfl rfl ?_
  refine ev_iconst (v := nI 0) dX9_readsPair_1 rfl ?_
  refine ev_iload_n dX9_readsPair_2 rfl rfl ?_
  refine ev_bipush (v := nI 10) dX9_readsPair_3 rfl ?_
  first | refine ev_idivN dX9_readsPair_5 (by first | omega | (have := (tDig_lt ht).2.2; omega)) (by first | assumption | omega | exact eTx.ob (by assumption)) (by first | omega | (have := (tDig_lt ht).2.2; omega)) ?_ | refine ev_idiv dX9_readsPair_5 (by decide) ?_
  refine ev_callVi dX9_readsPair_6 (c_X9_takeDigit hT (by decide) (by omega)) rfl lk_X9_57 (by first | assumption | omega | exact eTx.ob (by assumption)) ⟨Nat.le_of_ble_eq_true rfl, Nat.le_of_ble_eq_true rfl⟩ rfl (Nat.le_of_ble_eq_true rfl) ⟨Nat.le_of_ble_eq_true rfl, Nat.le_of_ble_eq_true rfl⟩ (fun g_6 hg_6 => ?_)
  obtain ⟨w_6, fr_6⟩ := hg_6
  replace hT := w_6
  first | replace FR := eFr.trans FR (eFr.one fr_6 (by omega) (by omega)) | replace FR := eFr.trans FR (eFr.wide fr_6 (by omega) (by omega))
  refine ev_istore_n dX9_readsPair_9 rfl (Nat.le_of_ble_eq_true rfl) ?_
  refine ev_iload_n dX9_readsPair_10 rfl rfl ?_
  refine ev_iconst (v := -1) dX9_readsPair_11 (by decide) ?_
  first | ((with_reducible show eV _ _ _ (Value.int (nI _) :: Value.int (nI _) :: _) _ _ _ _); refine ev_icmp_neN (tgt := 17) dX9_readsPair_12 (by decide) (by first | omega | (have := (tDig_lt ht).2.2; omega)) (by first | omega | (have := (tDig_lt ht).2.2; omega)) (fun c_12 => ?_) (fun c_12 => ?_)) | ((with_reducible show eV _ _ _ (Value.int (-1) :: Value.int (oI _) :: _) _ _ _ _); refine ev_icmp_neO (tgt := 17) dX9_readsPair_12 (by decide) (by exact tDig_b (by first | omega | (split <;> omega))) (fun c_12 => ?_) (fun c_12 => ?_)) | ((with_reducible show eV _ _ _ (Value.int (nI _) :: _) _ _ _ _); refine ev_icmp_neZN (tgt := 17) dX9_readsPair_12 (by decide) (by first | omega | (have := (tDig_lt ht).2.2; omega)) (fun c_12 => ?_) (fun c_12 => ?_)) | ((with_reducible show eV _ _ _ (_ :: Value.int (nI _) :: _) _ _ _ _); refine ev_icmp_neNZ (tgt := 17) dX9_readsPair_12 (by decide) (by first | omega | (have := (tDig_lt ht).2.2; omega)) (fun c_12 => ?_) (fun c_12 => ?_)) | (refine ev_icmp_neZZ (tgt := 17) dX9_readsPair_12 (by decide) (fun c_12 => ?_) (fun c_12 => ?_))
  · obtain ⟨t, ht⟩ := Option.ne_none_iff_exists'.mp c_12
    rw [ht] at hT
    rw [ht, show oI (some t) = nI t from rfl]
    refine ev_aload_n dX9_readsPair_17 rfl rfl ?_
    refine ev_iconst (v := nI 0) dX9_readsPair_18 rfl ?_
    refine ev_iload_n dX9_readsPair_19 rfl rfl ?_
    refine ev_iload_n dX9_readsPair_20 rfl rfl ?_
    refine ev_bipush (v := nI 10) dX9_readsPair_21 rfl ?_
    first | refine ev_idivN dX9_readsPair_23 (by first | omega | (have := (tDig_lt ht).2.2; omega)) (by first | assumption | omega | exact eTx.ob (by assumption)) (by first | omega | (have := (tDig_lt ht).2.2; omega)) ?_ | refine ev_idiv dX9_readsPair_23 (by decide) ?_
    first | ((with_reducible show eV _ _ _ (Value.int (nI _) :: Value.int (nI _) :: _) _ _ _ _); refine ev_icmp_neN (tgt := 34) dX9_readsPair_24 (by decide) (by first | omega | (have := (tDig_lt ht).2.2; omega)) (by first | omega | (have := (tDig_lt ht).2.2; omega)) (fun c_24 => ?_) (fun c_24 => ?_)) | ((with_reducible show eV _ _ _ (Value.int (-1) :: Value.int (oI _) :: _) _ _ _ _); refine ev_icmp_neO (tgt := 34) dX9_readsPair_24 (by decide) (by exact tDig_b (by first | omega | (split <;> omega))) (fun c_24 => ?_) (fun c_24 => ?_)) | ((with_reducible show eV _ _ _ (Value.int (nI _) :: _) _ _ _ _); refine ev_icmp_neZN (tgt := 34) dX9_readsPair_24 (by decide) (by first | omega | (have := (tDig_lt ht).2.2; omega)) (fun c_24 => ?_) (fun c_24 => ?_)) | ((with_reducible show eV _ _ _ (_ :: Value.int (nI _) :: _) _ _ _ _); refine ev_icmp_neNZ (tgt := 34) dX9_readsPair_24 (by decide) (by first | omega | (have := (tDig_lt ht).2.2; omega)) (fun c_24 => ?_) (fun c_24 => ?_)) | (refine ev_icmp_neZZ (tgt := 34) dX9_readsPair_24 (by decide) (fun c_24 => ?_) (fun c_24 => ?_))
    · refine ev_bipush (v := nI 9) dX9_readsPair_34 rfl ?_
      first | refine ev_top (show nI (m % 10) = nI (if t = m / 10 then m % 10 else 9) by rw [if_pos c_24]) ?_ | refine ev_top (show nI 9 = nI (if t = m / 10 then m % 10 else 9) by rw [if_neg c_24]) ?_
      refine ev_callVi dX9_readsPair_36 (c_X9_takeDigit hT (by decide) (by split <;> omega)) rfl lk_X9_57 (by first | assumption | omega | exact eTx.ob (by assumption)) ⟨Nat.le_of_ble_eq_true rfl, Nat.le_of_ble_eq_true rfl⟩ rfl (Nat.le_of_ble_eq_true rfl) ⟨Nat.le_of_ble_eq_true rfl, Nat.le_of_ble_eq_true rfl⟩ (fun g_36 hg_36 => ?_)
      obtain ⟨w_36, fr_36⟩ := hg_36
      replace hT := w_36
      first | replace FR := eFr.trans FR (eFr.one fr_36 (by omega) (by omega)) | replace FR := eFr.trans FR (eFr.wide fr_36 (by omega) (by omega))
      replace hT : eTx g_36 q x ℓ k (tStep (tGo u 1) (tDig x ℓ (u.1 + 1) 0 (if t = m / 10 then m % 10 else 9))) := hT
      refine ev_istore_n dX9_readsPair_39 rfl (Nat.le_of_ble_eq_true rfl) ?_
      refine ev_iload_n dX9_readsPair_40 rfl rfl ?_
      refine ev_iconst (v := -1) dX9_readsPair_41 (by decide) ?_
      first | ((with_reducible show eV _ _ _ (Value.int (nI _) :: Value.int (nI _) :: _) _ _ _ _); refine ev_icmp_eqN (tgt := 62) dX9_readsPair_42 (by decide) (by first | omega | (have := (tDig_lt ht).2.2; omega)) (by first | omega | (have := (tDig_lt ht).2.2; omega)) (fun c_42 => ?_) (fun c_42 => ?_)) | ((with_reducible show eV _ _ _ (Value.int (-1) :: Value.int (oI _) :: _) _ _ _ _); refine ev_icmp_eqO (tgt := 62) dX9_readsPair_42 (by decide) (by exact tDig_b (by first | omega | (split <;> omega))) (fun c_42 => ?_) (fun c_42 => ?_)) | ((with_reducible show eV _ _ _ (Value.int (oI _) :: Value.int (nI _) :: _) _ _ _ _); refine ev_icmp_eqNO (tgt := 62) dX9_readsPair_42 (by decide) (by first | omega | (have := (tDig_lt ht).2.2; omega)) (by exact tDig_b (by first | omega | (split <;> omega))) (fun c_42 => ?_) (fun c_42 => ?_)) | ((with_reducible show eV _ _ _ (Value.int (nI _) :: Value.int (oI _) :: _) _ _ _ _); refine ev_icmp_eqON (tgt := 62) dX9_readsPair_42 (by decide) (by first | omega | (have := (tDig_lt ht).2.2; omega)) (by exact tDig_b (by first | omega | (split <;> omega))) (fun c_42 => ?_) (fun c_42 => ?_)) | ((with_reducible show eV _ _ _ (Value.int (nI _) :: _) _ _ _ _); refine ev_icmp_eqZN (tgt := 62) dX9_readsPair_42 (by decide) (by first | omega | (have := (tDig_lt ht).2.2; omega)) (fun c_42 => ?_) (fun c_42 => ?_)) | ((with_reducible show eV _ _ _ (_ :: Value.int (nI _) :: _) _ _ _ _); refine ev_icmp_eqNZ (tgt := 62) dX9_readsPair_42 (by decide) (by first | omega | (have := (tDig_lt ht).2.2; omega)) (fun c_42 => ?_) (fun c_42 => ?_)) | (refine ev_icmp_eqZZ (tgt := 62) dX9_readsPair_42 (by decide) (fun c_42 => ?_) (fun c_42 => ?_))
      · refine ev_iconst (v := nI 0) dX9_readsPair_62 rfl ?_
        exact ev_iret dX9_readsPair_63 rfl (by first | rfl | exact bI_n _) (by first | exact bR0 (by rw [tPair_m ht c_42]) | exact bR0 (by rw [tPair_y ht hd]; exact c_55) | exact bR1 (by rw [tPair_y ht hd]; exact c_55)) (by first | exact ⟨by rw [tPair_m ht c_42]; rw [show tDig x ℓ (u.1 + 1) 0 (if t = m / 10 then m % 10 else 9) = none from c_42] at hT; exact hT, FR⟩ | exact ⟨by rw [tPair_y ht hd]; exact hT, FR⟩) (fun _ e => Option.some.inj e) (Nat.le_of_ble_eq_true rfl) (Nat.le_of_ble_eq_true rfl)
      · obtain ⟨d, hd⟩ : ∃ d, tDig x ℓ (u.1 + 1) 0 (if t = m / 10 then m % 10 else 9) = some d := Option.ne_none_iff_exists'.mp c_42
        rw [hd] at hT
        rw [show oI (tDig x ℓ (tStep u (some t)).1 0 (if t = m / 10 then m % 10 else 9)) = nI d from congrArg oI hd]
        refine ev_aload_n dX9_readsPair_45 rfl rfl ?_
        refine ev_bipush (v := nI 10) dX9_readsPair_46 rfl ?_
        refine ev_iload_n dX9_readsPair_48 rfl rfl ?_
        first | refine ev_imulN dX9_readsPair_49 ?_ | refine ev_imul dX9_readsPair_49 ?_
        refine ev_iload_n dX9_readsPair_50 rfl rfl ?_
        first | refine ev_iaddN dX9_readsPair_51 ?_ | refine ev_iadd dX9_readsPair_51 ?_
        refine ev_callVi dX9_readsPair_52 (c_X9_tells hT) rfl lk_X9_61 (by first | assumption | omega | exact eTx.ob (by assumption)) ⟨Nat.le_of_ble_eq_true rfl, Nat.le_of_ble_eq_true rfl⟩ rfl (Nat.le_of_ble_eq_true rfl) ⟨Nat.le_of_ble_eq_true rfl, Nat.le_of_ble_eq_true rfl⟩ (fun g_52 hg_52 => ?_)
        obtain ⟨w_52, fr_52⟩ := hg_52
        replace hT := w_52
        first | replace FR := eFr.trans FR (eFr.one fr_52 (by omega) (by omega)) | replace FR := eFr.trans FR (eFr.wide fr_52 (by omega) (by omega))
        first | ((with_reducible show eV _ _ _ (Value.int (bI _) :: _) _ _ _ _); refine ev_if_eqB (tgt := 62) dX9_readsPair_55 (by decide) (fun c_55 => ?_) (fun c_55 => ?_)) | ((with_reducible show eV _ _ _ (Value.int (nI _) :: _) _ _ _ _); refine ev_if_eqN (tgt := 62) dX9_readsPair_55 (by decide) (by first | omega | (have := (tDig_lt ht).2.2; omega)) (fun c_55 => ?_) (fun c_55 => ?_)) | (refine ev_if_eqZ (tgt := 62) dX9_readsPair_55 (by decide) (fun c_55 => ?_) (fun c_55 => ?_))
        · refine ev_iconst (v := nI 0) dX9_readsPair_62 rfl ?_
          exact ev_iret dX9_readsPair_63 rfl (by first | rfl | exact bI_n _) (by first | exact bR0 (by rw [tPair_m ht c_42]) | exact bR0 (by rw [tPair_y ht hd]; exact c_55) | exact bR1 (by rw [tPair_y ht hd]; exact c_55)) (by first | exact ⟨by rw [tPair_m ht c_42]; rw [show tDig x ℓ (u.1 + 1) 0 (if t = m / 10 then m % 10 else 9) = none from c_42] at hT; exact hT, FR⟩ | exact ⟨by rw [tPair_y ht hd]; exact hT, FR⟩) (fun _ e => Option.some.inj e) (Nat.le_of_ble_eq_true rfl) (Nat.le_of_ble_eq_true rfl)
        · refine ev_iconst (v := nI 1) dX9_readsPair_58 rfl ?_
          refine ev_goto (tgt := 63) dX9_readsPair_59 (by decide) ?_
          exact ev_iret dX9_readsPair_63 rfl (by first | rfl | exact bI_n _) (by first | exact bR0 (by rw [tPair_m ht c_42]) | exact bR0 (by rw [tPair_y ht hd]; exact c_55) | exact bR1 (by rw [tPair_y ht hd]; exact c_55)) (by first | exact ⟨by rw [tPair_m ht c_42]; rw [show tDig x ℓ (u.1 + 1) 0 (if t = m / 10 then m % 10 else 9) = none from c_42] at hT; exact hT, FR⟩ | exact ⟨by rw [tPair_y ht hd]; exact hT, FR⟩) (fun _ e => Option.some.inj e) (Nat.le_of_ble_eq_true rfl) (Nat.le_of_ble_eq_true rfl)
    · refine ev_iload_n dX9_readsPair_27 rfl rfl ?_
      refine ev_bipush (v := nI 10) dX9_readsPair_28 rfl ?_
      first | refine ev_iremN dX9_readsPair_30 (by first | omega | (have := (tDig_lt ht).2.2; omega)) (by first | assumption | omega | exact eTx.ob (by assumption)) (by first | omega | (have := (tDig_lt ht).2.2; omega)) ?_ | refine ev_irem dX9_readsPair_30 (by decide) ?_
      refine ev_goto (tgt := 36) dX9_readsPair_31 (by decide) ?_
      first | refine ev_top (show nI (m % 10) = nI (if t = m / 10 then m % 10 else 9) by rw [if_pos c_24]) ?_ | refine ev_top (show nI 9 = nI (if t = m / 10 then m % 10 else 9) by rw [if_neg c_24]) ?_
      refine ev_callVi dX9_readsPair_36 (c_X9_takeDigit hT (by decide) (by split <;> omega)) rfl lk_X9_57 (by first | assumption | omega | exact eTx.ob (by assumption)) ⟨Nat.le_of_ble_eq_true rfl, Nat.le_of_ble_eq_true rfl⟩ rfl (Nat.le_of_ble_eq_true rfl) ⟨Nat.le_of_ble_eq_true rfl, Nat.le_of_ble_eq_true rfl⟩ (fun g_36 hg_36 => ?_)
      obtain ⟨w_36, fr_36⟩ := hg_36
      replace hT := w_36
      first | replace FR := eFr.trans FR (eFr.one fr_36 (by omega) (by omega)) | replace FR := eFr.trans FR (eFr.wide fr_36 (by omega) (by omega))
      replace hT : eTx g_36 q x ℓ k (tStep (tGo u 1) (tDig x ℓ (u.1 + 1) 0 (if t = m / 10 then m % 10 else 9))) := hT
      refine ev_istore_n dX9_readsPair_39 rfl (Nat.le_of_ble_eq_true rfl) ?_
      refine ev_iload_n dX9_readsPair_40 rfl rfl ?_
      refine ev_iconst (v := -1) dX9_readsPair_41 (by decide) ?_
      first | ((with_reducible show eV _ _ _ (Value.int (nI _) :: Value.int (nI _) :: _) _ _ _ _); refine ev_icmp_eqN (tgt := 62) dX9_readsPair_42 (by decide) (by first | omega | (have := (tDig_lt ht).2.2; omega)) (by first | omega | (have := (tDig_lt ht).2.2; omega)) (fun c_42 => ?_) (fun c_42 => ?_)) | ((with_reducible show eV _ _ _ (Value.int (-1) :: Value.int (oI _) :: _) _ _ _ _); refine ev_icmp_eqO (tgt := 62) dX9_readsPair_42 (by decide) (by exact tDig_b (by first | omega | (split <;> omega))) (fun c_42 => ?_) (fun c_42 => ?_)) | ((with_reducible show eV _ _ _ (Value.int (oI _) :: Value.int (nI _) :: _) _ _ _ _); refine ev_icmp_eqNO (tgt := 62) dX9_readsPair_42 (by decide) (by first | omega | (have := (tDig_lt ht).2.2; omega)) (by exact tDig_b (by first | omega | (split <;> omega))) (fun c_42 => ?_) (fun c_42 => ?_)) | ((with_reducible show eV _ _ _ (Value.int (nI _) :: Value.int (oI _) :: _) _ _ _ _); refine ev_icmp_eqON (tgt := 62) dX9_readsPair_42 (by decide) (by first | omega | (have := (tDig_lt ht).2.2; omega)) (by exact tDig_b (by first | omega | (split <;> omega))) (fun c_42 => ?_) (fun c_42 => ?_)) | ((with_reducible show eV _ _ _ (Value.int (nI _) :: _) _ _ _ _); refine ev_icmp_eqZN (tgt := 62) dX9_readsPair_42 (by decide) (by first | omega | (have := (tDig_lt ht).2.2; omega)) (fun c_42 => ?_) (fun c_42 => ?_)) | ((with_reducible show eV _ _ _ (_ :: Value.int (nI _) :: _) _ _ _ _); refine ev_icmp_eqNZ (tgt := 62) dX9_readsPair_42 (by decide) (by first | omega | (have := (tDig_lt ht).2.2; omega)) (fun c_42 => ?_) (fun c_42 => ?_)) | (refine ev_icmp_eqZZ (tgt := 62) dX9_readsPair_42 (by decide) (fun c_42 => ?_) (fun c_42 => ?_))
      · refine ev_iconst (v := nI 0) dX9_readsPair_62 rfl ?_
        exact ev_iret dX9_readsPair_63 rfl (by first | rfl | exact bI_n _) (by first | exact bR0 (by rw [tPair_m ht c_42]) | exact bR0 (by rw [tPair_y ht hd]; exact c_55) | exact bR1 (by rw [tPair_y ht hd]; exact c_55)) (by first | exact ⟨by rw [tPair_m ht c_42]; rw [show tDig x ℓ (u.1 + 1) 0 (if t = m / 10 then m % 10 else 9) = none from c_42] at hT; exact hT, FR⟩ | exact ⟨by rw [tPair_y ht hd]; exact hT, FR⟩) (fun _ e => Option.some.inj e) (Nat.le_of_ble_eq_true rfl) (Nat.le_of_ble_eq_true rfl)
      · obtain ⟨d, hd⟩ : ∃ d, tDig x ℓ (u.1 + 1) 0 (if t = m / 10 then m % 10 else 9) = some d := Option.ne_none_iff_exists'.mp c_42
        rw [hd] at hT
        rw [show oI (tDig x ℓ (tStep u (some t)).1 0 (if t = m / 10 then m % 10 else 9)) = nI d from congrArg oI hd]
        refine ev_aload_n dX9_readsPair_45 rfl rfl ?_
        refine ev_bipush (v := nI 10) dX9_readsPair_46 rfl ?_
        refine ev_iload_n dX9_readsPair_48 rfl rfl ?_
        first | refine ev_imulN dX9_readsPair_49 ?_ | refine ev_imul dX9_readsPair_49 ?_
        refine ev_iload_n dX9_readsPair_50 rfl rfl ?_
        first | refine ev_iaddN dX9_readsPair_51 ?_ | refine ev_iadd dX9_readsPair_51 ?_
        refine ev_callVi dX9_readsPair_52 (c_X9_tells hT) rfl lk_X9_61 (by first | assumption | omega | exact eTx.ob (by assumption)) ⟨Nat.le_of_ble_eq_true rfl, Nat.le_of_ble_eq_true rfl⟩ rfl (Nat.le_of_ble_eq_true rfl) ⟨Nat.le_of_ble_eq_true rfl, Nat.le_of_ble_eq_true rfl⟩ (fun g_52 hg_52 => ?_)
        obtain ⟨w_52, fr_52⟩ := hg_52
        replace hT := w_52
        first | replace FR := eFr.trans FR (eFr.one fr_52 (by omega) (by omega)) | replace FR := eFr.trans FR (eFr.wide fr_52 (by omega) (by omega))
        first | ((with_reducible show eV _ _ _ (Value.int (bI _) :: _) _ _ _ _); refine ev_if_eqB (tgt := 62) dX9_readsPair_55 (by decide) (fun c_55 => ?_) (fun c_55 => ?_)) | ((with_reducible show eV _ _ _ (Value.int (nI _) :: _) _ _ _ _); refine ev_if_eqN (tgt := 62) dX9_readsPair_55 (by decide) (by first | omega | (have := (tDig_lt ht).2.2; omega)) (fun c_55 => ?_) (fun c_55 => ?_)) | (refine ev_if_eqZ (tgt := 62) dX9_readsPair_55 (by decide) (fun c_55 => ?_) (fun c_55 => ?_))
        · refine ev_iconst (v := nI 0) dX9_readsPair_62 rfl ?_
          exact ev_iret dX9_readsPair_63 rfl (by first | rfl | exact bI_n _) (by first | exact bR0 (by rw [tPair_m ht c_42]) | exact bR0 (by rw [tPair_y ht hd]; exact c_55) | exact bR1 (by rw [tPair_y ht hd]; exact c_55)) (by first | exact ⟨by rw [tPair_m ht c_42]; rw [show tDig x ℓ (u.1 + 1) 0 (if t = m / 10 then m % 10 else 9) = none from c_42] at hT; exact hT, FR⟩ | exact ⟨by rw [tPair_y ht hd]; exact hT, FR⟩) (fun _ e => Option.some.inj e) (Nat.le_of_ble_eq_true rfl) (Nat.le_of_ble_eq_true rfl)
        · refine ev_iconst (v := nI 1) dX9_readsPair_58 rfl ?_
          refine ev_goto (tgt := 63) dX9_readsPair_59 (by decide) ?_
          exact ev_iret dX9_readsPair_63 rfl (by first | rfl | exact bI_n _) (by first | exact bR0 (by rw [tPair_m ht c_42]) | exact bR0 (by rw [tPair_y ht hd]; exact c_55) | exact bR1 (by rw [tPair_y ht hd]; exact c_55)) (by first | exact ⟨by rw [tPair_m ht c_42]; rw [show tDig x ℓ (u.1 + 1) 0 (if t = m / 10 then m % 10 else 9) = none from c_42] at hT; exact hT, FR⟩ | exact ⟨by rw [tPair_y ht hd]; exact hT, FR⟩) (fun _ e => Option.some.inj e) (Nat.le_of_ble_eq_true rfl) (Nat.le_of_ble_eq_true rfl)
  · refine ev_iconst (v := nI 0) dX9_readsPair_15 rfl ?_
    exact ev_iret dX9_readsPair_16 rfl (by first | rfl | exact bI_n _) (by exact bR0 (by rw [tPair_n c_12])) (by exact ⟨by rw [tPair_n c_12]; rw [c_12] at hT; exact hT, FR⟩) (fun _ e => Option.some.inj e) (Nat.le_of_ble_eq_true rfl) (Nat.le_of_ble_eq_true rfl)

