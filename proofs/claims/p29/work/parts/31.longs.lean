theorem lN_step {s m a : Nat} (h : a + 1 + 1 ≤ m) : s / 1000000 ^ (m - 1 - (a + 1)) / 1000000 = s / 1000000 ^ (m - 1 - a) := by
  rw [Nat.div_div_eq_div_mul, ← Nat.pow_succ]
  congr 2
  omega
set_option maxHeartbeats 4000000 in
set_option maxRecDepth 20000 in
theorem c_X6_beyond {h : eH} {n m : Nat} (hm : m ≤ 3) : kX6_beyond [.int (nI m)] h n (.inl (some (.long (lN (1000000 ^ m)))), (· = h), some n) 0 0 := by
  refine eM.of RX6 "beyond" [(0, .int (nI m))] pn_X6 rfl rfl (Nat.le_of_ble_eq_true rfl) rfl ?_
  refine ev_lconst (v := lN 1) dX6_beyond_0 rfl ?_
  refine ev_lstore_n dX6_beyond_1 rfl (Nat.le_of_ble_eq_true rfl) ?_
  refine ev_iconst (v := nI 0) dX6_beyond_2 rfl ?_
  refine ev_istore_n dX6_beyond_3 rfl (Nat.le_of_ble_eq_true rfl) ?_
  have H_4 : ∀ (d_4 : Nat) (k : Nat), d_4 = m - k → (k ≤ m) → eV mX6_beyond 4 [(0, .int (nI m)), (1, .long (lN (1000000 ^ k))), (3, .int (nI k))] [] (h, n, 0, 0) (.inl (some (.long (lN (1000000 ^ m)))), (· = h), some n) 0 0 := by
    intro d_4
    induction d_4 using Nat.strongRecOn with
    | _ d_4 ih_4 =>
    intro k hd_4 hk
    refine ev_iload_n dX6_beyond_4 rfl rfl ?_
    refine ev_iload_n dX6_beyond_5 rfl rfl ?_
    first | ((with_reducible show eV _ _ _ (Value.int (nI _) :: Value.int (nI _) :: _) _ _ _ _); refine ev_icmp_geN (tgt := 26) dX6_beyond_6 (by decide) (by first | exact hB _ _ | omega) (by first | exact hB _ _ | omega) (fun c_6 => ?_) (fun c_6 => ?_)) | ((with_reducible show eV _ _ _ (Value.int (nI _) :: _) _ _ _ _); refine ev_icmp_geZN (tgt := 26) dX6_beyond_6 (by decide) (by first | exact hB _ _ | omega) (fun c_6 => ?_) (fun c_6 => ?_)) | ((with_reducible show eV _ _ _ (_ :: Value.int (nI _) :: _) _ _ _ _); refine ev_icmp_geNZ (tgt := 26) dX6_beyond_6 (by decide) (by first | exact hB _ _ | omega) (fun c_6 => ?_) (fun c_6 => ?_)) | (refine ev_icmp_geZZ (tgt := 26) dX6_beyond_6 (by decide) (fun c_6 => ?_) (fun c_6 => ?_))
    · refine ev_lload_n dX6_beyond_26 rfl rfl ?_
      exact ev_lret dX6_beyond_27 rfl (by have e : k = m := (by omega); rw [e]) (by rfl) (fun _ e => Option.some.inj e) (Nat.le_of_ble_eq_true rfl) (Nat.le_of_ble_eq_true rfl)
    · refine ev_iload_n dX6_beyond_9 rfl rfl ?_
      refine ev_iconst (v := nI 3) dX6_beyond_10 rfl ?_
      first | ((with_reducible show eV _ _ _ (Value.int (nI _) :: Value.int (nI _) :: _) _ _ _ _); refine ev_icmp_geN (tgt := 26) dX6_beyond_11 (by decide) (by first | exact hB _ _ | omega) (by first | exact hB _ _ | omega) (fun c_11 => ?_) (fun c_11 => ?_)) | ((with_reducible show eV _ _ _ (Value.int (nI _) :: _) _ _ _ _); refine ev_icmp_geZN (tgt := 26) dX6_beyond_11 (by decide) (by first | exact hB _ _ | omega) (fun c_11 => ?_) (fun c_11 => ?_)) | ((with_reducible show eV _ _ _ (_ :: Value.int (nI _) :: _) _ _ _ _); refine ev_icmp_geNZ (tgt := 26) dX6_beyond_11 (by decide) (by first | exact hB _ _ | omega) (fun c_11 => ?_) (fun c_11 => ?_)) | (refine ev_icmp_geZZ (tgt := 26) dX6_beyond_11 (by decide) (fun c_11 => ?_) (fun c_11 => ?_))
      · exact absurd c_11 (by omega)
      · refine ev_lload_n dX6_beyond_14 rfl rfl ?_
        refine ev_ldc2 (v := lN 1000000) dX6_beyond_15 wq_X6_11 ?_
        refine ev_lmul dX6_beyond_18 ?_
        rw [lN_mul]
        refine ev_lstore_n dX6_beyond_19 rfl (Nat.le_of_ble_eq_true rfl) ?_
        first | refine ev_iincN dX6_beyond_20 rfl (Nat.le_of_ble_eq_true rfl) ?_ | refine ev_iinc dX6_beyond_20 rfl rfl (Nat.le_of_ble_eq_true rfl) ?_
        refine ev_goto (tgt := 4) dX6_beyond_23 (by decide) ?_
        exact (ih_4 _ (by omega) _  rfl (by first | omega | assumption | rfl)).sub1 ⟨rfl, rfl, rfl, trivial⟩ rfl
  exact (H_4 _ 0 rfl (by first | omega | assumption | rfl)).sub1 ⟨rfl, rfl, rfl, trivial⟩ rfl
set_option maxHeartbeats 4000000 in
set_option maxRecDepth 20000 in
theorem c_X6_group {h : eH} {n s m i : Nat} (hs : s < 2 ^ 63) (hm : m ≤ 3) (hi : i < m) : kX6_group [.long (lN s), .int (nI m), .int (nI i)] h n (.inl (some (.int (nI (s / 1000000 ^ (m - 1 - i) % 1000000)))), (· = h), some n) 0 0 := by
  refine eM.of RX6 "group" [(0, .long (lN s)), (2, .int (nI m)), (3, .int (nI i))] pn_X6 rfl rfl (Nat.le_of_ble_eq_true rfl) rfl ?_
  have e00 : lN s = lN (s / 1000000 ^ (m - 1 - (m - 1))) := by rw [Nat.sub_self, Nat.pow_zero, Nat.div_one]
  refine ev_lload_n dX6_group_0 rfl rfl ?_
  refine eV.stk (show (Value.long (lN s) :: [] : List Value) = Value.long (lN (s / 1000000 ^ (m - 1 - (m - 1)))) :: [] by rw [← e00]) ?_
  refine ev_lstore dX6_group_1 (Nat.le_of_ble_eq_true rfl) ?_
  refine ev_iload_n dX6_group_3 rfl rfl ?_
  refine ev_iconst (v := nI 1) dX6_group_4 rfl ?_
  first | refine ev_isubN dX6_group_5 (by first | assumption | omega | exact ePp.ob (by assumption) | exact eNm.ob (by assumption) | exact eRg.ob (by assumption) | exact eTx.ob (by assumption) | exact ePa.ob (by assumption)) ?_ | refine ev_isub dX6_group_5 ?_
  refine ev_istore dX6_group_6 (Nat.le_of_ble_eq_true rfl) ?_
  have H_8 : ∀ (d_8 : Nat) (j : Nat), d_8 = j → (i ≤ j) → (j + 1 ≤ m) → eV mX6_group 8 [(0, .long (lN s)), (2, .int (nI m)), (3, .int (nI i)), (4, .long (lN (s / 1000000 ^ (m - 1 - j)))), (6, .int (nI j))] [] (h, n, 0, 0) (.inl (some (.int (nI (s / 1000000 ^ (m - 1 - i) % 1000000)))), (· = h), some n) 0 0 := by
    intro d_8
    induction d_8 using Nat.strongRecOn with
    | _ d_8 ih_8 =>
    intro j hd_8 hj1 hj2
    have hb : s / 1000000 ^ (m - 1 - j) < 2 ^ 63 := Nat.lt_of_le_of_lt (Nat.div_le_self _ _) hs
    refine ev_iload dX6_group_8 rfl ?_
    refine ev_iload_n dX6_group_10 rfl rfl ?_
    first | ((with_reducible show eV _ _ _ (Value.int (nI _) :: Value.int (nI _) :: _) _ _ _ _); refine ev_icmp_leN (tgt := 28) dX6_group_11 (by decide) (by first | exact hB _ _ | omega) (by first | exact hB _ _ | omega) (fun c_11 => ?_) (fun c_11 => ?_)) | ((with_reducible show eV _ _ _ (Value.int (nI _) :: _) _ _ _ _); refine ev_icmp_leZN (tgt := 28) dX6_group_11 (by decide) (by first | exact hB _ _ | omega) (fun c_11 => ?_) (fun c_11 => ?_)) | ((with_reducible show eV _ _ _ (_ :: Value.int (nI _) :: _) _ _ _ _); refine ev_icmp_leNZ (tgt := 28) dX6_group_11 (by decide) (by first | exact hB _ _ | omega) (fun c_11 => ?_) (fun c_11 => ?_)) | (refine ev_icmp_leZZ (tgt := 28) dX6_group_11 (by decide) (fun c_11 => ?_) (fun c_11 => ?_))
    · refine ev_lload dX6_group_28 rfl ?_
      refine ev_ldc2 (v := lN 1000000) dX6_group_30 wq_X6_11 ?_
      refine ev_lrem dX6_group_33 (by decide) ?_
      rw [pk_lRem hb (by decide) (by decide)]
      refine ev_l2i dX6_group_34 (lN_i _) ?_
      exact ev_iret dX6_group_35 rfl rfl (by exact nR (by have e : j = i := (by omega); rw [e])) (by rfl) (fun _ e => Option.some.inj e) (Nat.le_of_ble_eq_true rfl) (Nat.le_of_ble_eq_true rfl)
    · obtain ⟨a, rfl⟩ : ∃ a, j = a + 1 := ⟨j - 1, by omega⟩
      refine ev_lload dX6_group_14 rfl ?_
      refine ev_ldc2 (v := lN 1000000) dX6_group_16 wq_X6_11 ?_
      refine ev_ldiv dX6_group_19 (by decide) ?_
      rw [pk_lDiv hb (by decide) (by decide), lN_step hj2]
      refine ev_lstore dX6_group_20 (Nat.le_of_ble_eq_true rfl) ?_
      first | refine ev_iincD dX6_group_22 rfl (Nat.le_of_ble_eq_true rfl) ?_ | refine ev_iinc dX6_group_22 rfl rfl (Nat.le_of_ble_eq_true rfl) ?_
      refine ev_goto (tgt := 8) dX6_group_25 (by decide) ?_
      exact (ih_8 _ (by omega) _  rfl (by first | omega | assumption | rfl) (by first | omega | assumption | rfl)).sub1 ⟨rfl, rfl, rfl, rfl, rfl, trivial⟩ rfl
  exact (H_8 _ (m - 1) rfl (by first | omega | assumption | rfl) (by first | omega | assumption | rfl)).sub1 ⟨rfl, rfl, rfl, rfl, rfl, trivial⟩ rfl

