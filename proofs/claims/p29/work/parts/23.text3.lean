theorem tZ_at {x : Nat → Nat} {ℓ p : Nat} (hx : ∀ j, x j < 256) : (oI (tHere x ℓ p)).toInt = match tHere x ℓ p with | none => -1 | some s => (s : Int) := by
  cases hh : tHere x ℓ p with
  | none => show (-1 : Int32).toInt = -1; decide
  | some s => exact nI_toInt (tHere_b hx s hh)
theorem tAZ_n {x : Nat → Nat} {ℓ p : Nat} (hx : ∀ j, x j < 256) (h : (oI (tHere x ℓ p)).toInt < ((65 : Nat) : Int) ∨ ((90 : Nat) : Int) < (oI (tHere x ℓ p)).toInt) : tAZ x ℓ p = false := by
  rw [tZ_at hx] at h
  unfold tAZ
  cases hh : tHere x ℓ p with
  | none => rfl
  | some s =>
    rw [hh] at h
    simp only at h
    exact decide_eq_false (by omega)
theorem tAZ_y {x : Nat → Nat} {ℓ p : Nat} (hx : ∀ j, x j < 256) (h1 : ((65 : Nat) : Int) ≤ (oI (tHere x ℓ p)).toInt) (h2 : (oI (tHere x ℓ p)).toInt ≤ ((90 : Nat) : Int)) : tAZ x ℓ p = true ∧ tHere x ℓ p = some (x p) ∧ 65 ≤ x p ∧ p < ℓ := by
  rw [tZ_at hx] at h1 h2
  unfold tAZ
  cases hh : tHere x ℓ p with
  | none => rw [hh] at h1; simp at h1
  | some s =>
    rw [hh] at h1 h2
    simp only at h1 h2
    have := tHere_lt hh
    exact ⟨decide_eq_true (by omega), by rw [this.2], by omega, this.1⟩
theorem tLm_4 {x : Nat → Nat} {ℓ p i : Nat} (hf : fst (fun i => !tAZ x ℓ (p + i)) i = none) (hi : i ≤ 4) (h4 : 4 ≤ i) : tLm x ℓ p = i := by
  have e : i = 4 := by omega
  subst e
  unfold tLm
  rw [hf]
theorem tLm_i {x : Nat → Nat} {ℓ p i : Nat} (hf : fst (fun i => !tAZ x ℓ (p + i)) i = none) (hi : i < 4) (h : tAZ x ℓ (p + i) = false) : tLm x ℓ p = i := by
  unfold tLm
  rw [fst_up (p := fun i => !tAZ x ℓ (p + i)) hf (by simp [h]) hi]
theorem tLet_0 {x : Nat → Nat} {ℓ i : Nat} {u : Cur} (hm : tLm x ℓ u.1 = i) (h : i = 0) : tLetters x ℓ u = (false, u) := by unfold tLetters; rw [if_pos (by omega)]
theorem tLet_i {x : Nat → Nat} {ℓ i : Nat} {u : Cur} (hm : tLm x ℓ u.1 = i) (h : i ≠ 0) : tLetters x ℓ u = tAnd (tAnd (tTell (tGo u i) i) (fun w => tTell w (tLc x u.1 i))) (tSign x ℓ 46) := by unfold tLetters; rw [if_neg (by omega), hm]
set_option maxHeartbeats 4000000 in
set_option maxRecDepth 20000 in
theorem c_X9_readsLetters {h : eH} {n q : Nat} {x : Nat → Nat} {ℓ : Nat} {k : Option Nat} {u : Cur} (hT : eTx h q x ℓ k u) : kX9_readsLetters [.ref q] h n (.inl (some (.int (bI (tLetters x ℓ u).1))), (fun g => eTx g q x ℓ k (tLetters x ℓ u).2 ∧ eFr h g q (q + 3)), some n) 0 0 := by
  refine eM.of RX9 "readsLetters" [(0, .ref q)] pn_X9 rfl rfl (Nat.le_of_ble_eq_true rfl) rfl ?_
  have FR0 : eFr h h q (q + 3) := eFr.rf
  have t4 := hT.2.2.2.2
  refine ev_iconst (v := nI 0) dX9_readsLetters_0 rfl ?_
  refine ev_istore_n dX9_readsLetters_1 rfl (Nat.le_of_ble_eq_true rfl) ?_
  refine ev_iconst (v := nI 0) dX9_readsLetters_2 rfl ?_
  refine ev_istore_n dX9_readsLetters_3 rfl (Nat.le_of_ble_eq_true rfl) ?_
  refine ev_iconst (v := nI 0) dX9_readsLetters_4 rfl ?_
  refine ev_istore_n dX9_readsLetters_5 rfl (Nat.le_of_ble_eq_true rfl) ?_
  have H_6 : ∀ (d_6 : Nat) (i : Nat) (g : eH), d_6 = 4 - i → (i ≤ 4) → (fst (fun i => !tAZ x ℓ (u.1 + i)) i = none) → (eTx g q x ℓ k (tGo u i)) → (eFr h g q (q + 3)) → eV mX9_readsLetters 6 [(0, .ref q), (1, .int (nI i)), (2, .int (nI (tLc x u.1 i))), (3, .int (nI i))] [] (g, n, 0, 0) (.inl (some (.int (bI (tLetters x ℓ u).1))), (fun g => eTx g q x ℓ k (tLetters x ℓ u).2 ∧ eFr h g q (q + 3)), some n) 0 0 := by
    intro d_6
    induction d_6 using Nat.strongRecOn with
    | _ d_6 ih_6 =>
    intro i g hd_6 hi hf hg FR
    obtain ⟨t0, t1, t2, t3, -⟩ := id hg
    have hm1 := t1.1
    refine ev_iload_n dX9_readsLetters_6 rfl rfl ?_
    refine ev_iconst (v := nI 4) dX9_readsLetters_7 rfl ?_
    first | ((with_reducible show eV _ _ _ (Value.int (nI _) :: Value.int (nI _) :: _) _ _ _ _); refine ev_icmp_geN (tgt := 61) dX9_readsLetters_8 (by decide) (by first | exact hB _ _ | omega) (by first | exact hB _ _ | omega) (fun c_8 => ?_) (fun c_8 => ?_)) | ((with_reducible show eV _ _ _ (Value.int (nI _) :: _) _ _ _ _); refine ev_icmp_geZN (tgt := 61) dX9_readsLetters_8 (by decide) (by first | exact hB _ _ | omega) (fun c_8 => ?_) (fun c_8 => ?_)) | ((with_reducible show eV _ _ _ (_ :: Value.int (nI _) :: _) _ _ _ _); refine ev_icmp_geNZ (tgt := 61) dX9_readsLetters_8 (by decide) (by first | exact hB _ _ | omega) (fun c_8 => ?_) (fun c_8 => ?_)) | (refine ev_icmp_geZZ (tgt := 61) dX9_readsLetters_8 (by decide) (fun c_8 => ?_) (fun c_8 => ?_))
    · have hm : tLm x ℓ u.1 = i := by first | exact tLm_4 hf hi c_8 | exact tLm_i hf c_8 (tAZ_n t4 (Or.inl c_17)) | exact tLm_i hf c_8 (tAZ_n t4 (Or.inr c_26))
      refine ev_iload_n dX9_readsLetters_61 rfl rfl ?_
      first | ((with_reducible show eV _ _ _ (Value.int (nI _) :: _) _ _ _ _); refine ev_if_leN (tgt := 94) dX9_readsLetters_62 (by decide) (by first | exact hB _ _ | omega) (fun c_62 => ?_) (fun c_62 => ?_)) | (refine ev_if_leZ (tgt := 94) dX9_readsLetters_62 (by decide) (fun c_62 => ?_) (fun c_62 => ?_))
      · refine ev_iconst (v := nI 0) dX9_readsLetters_94 rfl ?_
        exact ev_iret dX9_readsLetters_95 rfl (by first | rfl | exact bI_n _) (by first | exact bR0 (by rw [tLet_0 hm c_62]) | exact bR0 (by rw [tLet_i hm c_62]; first | (simp [tAnd, c_70, c_78, c_87]; done) | (simp [tAnd, c_70, c_78]; done) | (simp [tAnd, c_70]; done)) | exact bR1 (by rw [tLet_i hm c_62]; simp [tAnd, c_70, c_78, c_87])) (by first | exact ⟨by rw [tLet_0 hm c_62]; subst c_62; exact hg, FR⟩ | exact ⟨by rw [tLet_i hm c_62]; first | (simp [tAnd, c_70, c_78, c_87]; exact hg) | (simp [tAnd, c_70, c_78]; exact hg) | (simp [tAnd, c_70]; exact hg), FR⟩) (fun _ e => Option.some.inj e) (Nat.le_of_ble_eq_true rfl) (Nat.le_of_ble_eq_true rfl)
      · refine ev_aload_n dX9_readsLetters_65 rfl rfl ?_
        refine ev_iload_n dX9_readsLetters_66 rfl rfl ?_
        refine ev_callVi dX9_readsLetters_67 (c_X9_tells hg) rfl lk_X9_61 (by first | assumption | omega | exact eTx.ob (by assumption)) ⟨Nat.le_of_ble_eq_true rfl, Nat.le_of_ble_eq_true rfl⟩ rfl (Nat.le_of_ble_eq_true rfl) ⟨Nat.le_of_ble_eq_true rfl, Nat.le_of_ble_eq_true rfl⟩ (fun g_67 hg_67 => ?_)
        obtain ⟨w_67, fr_67⟩ := hg_67
        replace hg := w_67
        first | replace FR := eFr.trans FR (eFr.one fr_67 (by omega) (by omega)) | replace FR := eFr.trans FR (eFr.wide fr_67 (by omega) (by omega))
        first | ((with_reducible show eV _ _ _ (Value.int (bI _) :: _) _ _ _ _); refine ev_if_eqB (tgt := 94) dX9_readsLetters_70 (by decide) (fun c_70 => ?_) (fun c_70 => ?_)) | ((with_reducible show eV _ _ _ (Value.int (nI _) :: _) _ _ _ _); refine ev_if_eqN (tgt := 94) dX9_readsLetters_70 (by decide) (by first | exact hB _ _ | omega) (fun c_70 => ?_) (fun c_70 => ?_)) | (refine ev_if_eqZ (tgt := 94) dX9_readsLetters_70 (by decide) (fun c_70 => ?_) (fun c_70 => ?_))
        · refine ev_iconst (v := nI 0) dX9_readsLetters_94 rfl ?_
          exact ev_iret dX9_readsLetters_95 rfl (by first | rfl | exact bI_n _) (by first | exact bR0 (by rw [tLet_0 hm c_62]) | exact bR0 (by rw [tLet_i hm c_62]; first | (simp [tAnd, c_70, c_78, c_87]; done) | (simp [tAnd, c_70, c_78]; done) | (simp [tAnd, c_70]; done)) | exact bR1 (by rw [tLet_i hm c_62]; simp [tAnd, c_70, c_78, c_87])) (by first | exact ⟨by rw [tLet_0 hm c_62]; subst c_62; exact hg, FR⟩ | exact ⟨by rw [tLet_i hm c_62]; first | (simp [tAnd, c_70, c_78, c_87]; exact hg) | (simp [tAnd, c_70, c_78]; exact hg) | (simp [tAnd, c_70]; exact hg), FR⟩) (fun _ e => Option.some.inj e) (Nat.le_of_ble_eq_true rfl) (Nat.le_of_ble_eq_true rfl)
        · refine ev_aload_n dX9_readsLetters_73 rfl rfl ?_
          refine ev_iload_n dX9_readsLetters_74 rfl rfl ?_
          refine ev_callVi dX9_readsLetters_75 (c_X9_tells hg) rfl lk_X9_61 (by first | assumption | omega | exact eTx.ob (by assumption)) ⟨Nat.le_of_ble_eq_true rfl, Nat.le_of_ble_eq_true rfl⟩ rfl (Nat.le_of_ble_eq_true rfl) ⟨Nat.le_of_ble_eq_true rfl, Nat.le_of_ble_eq_true rfl⟩ (fun g_75 hg_75 => ?_)
          obtain ⟨w_75, fr_75⟩ := hg_75
          replace hg := w_75
          first | replace FR := eFr.trans FR (eFr.one fr_75 (by omega) (by omega)) | replace FR := eFr.trans FR (eFr.wide fr_75 (by omega) (by omega))
          first | ((with_reducible show eV _ _ _ (Value.int (bI _) :: _) _ _ _ _); refine ev_if_eqB (tgt := 94) dX9_readsLetters_78 (by decide) (fun c_78 => ?_) (fun c_78 => ?_)) | ((with_reducible show eV _ _ _ (Value.int (nI _) :: _) _ _ _ _); refine ev_if_eqN (tgt := 94) dX9_readsLetters_78 (by decide) (by first | exact hB _ _ | omega) (fun c_78 => ?_) (fun c_78 => ?_)) | (refine ev_if_eqZ (tgt := 94) dX9_readsLetters_78 (by decide) (fun c_78 => ?_) (fun c_78 => ?_))
          · refine ev_iconst (v := nI 0) dX9_readsLetters_94 rfl ?_
            exact ev_iret dX9_readsLetters_95 rfl (by first | rfl | exact bI_n _) (by first | exact bR0 (by rw [tLet_0 hm c_62]) | exact bR0 (by rw [tLet_i hm c_62]; first | (simp [tAnd, c_70, c_78, c_87]; done) | (simp [tAnd, c_70, c_78]; done) | (simp [tAnd, c_70]; done)) | exact bR1 (by rw [tLet_i hm c_62]; simp [tAnd, c_70, c_78, c_87])) (by first | exact ⟨by rw [tLet_0 hm c_62]; subst c_62; exact hg, FR⟩ | exact ⟨by rw [tLet_i hm c_62]; first | (simp [tAnd, c_70, c_78, c_87]; exact hg) | (simp [tAnd, c_70, c_78]; exact hg) | (simp [tAnd, c_70]; exact hg), FR⟩) (fun _ e => Option.some.inj e) (Nat.le_of_ble_eq_true rfl) (Nat.le_of_ble_eq_true rfl)
          · refine ev_aload_n dX9_readsLetters_81 rfl rfl ?_
            refine ev_bipush (v := nI 46) dX9_readsLetters_82 rfl ?_
            refine ev_callVi dX9_readsLetters_84 (c_X9_reads hg (by decide)) rfl lk_X9_39 (by first | assumption | omega | exact eTx.ob (by assumption)) ⟨Nat.le_of_ble_eq_true rfl, Nat.le_of_ble_eq_true rfl⟩ rfl (Nat.le_of_ble_eq_true rfl) ⟨Nat.le_of_ble_eq_true rfl, Nat.le_of_ble_eq_true rfl⟩ (fun g_84 hg_84 => ?_)
            obtain ⟨w_84, fr_84⟩ := hg_84
            replace hg := w_84
            first | replace FR := eFr.trans FR (eFr.one fr_84 (by omega) (by omega)) | replace FR := eFr.trans FR (eFr.wide fr_84 (by omega) (by omega))
            first | ((with_reducible show eV _ _ _ (Value.int (bI _) :: _) _ _ _ _); refine ev_if_eqB (tgt := 94) dX9_readsLetters_87 (by decide) (fun c_87 => ?_) (fun c_87 => ?_)) | ((with_reducible show eV _ _ _ (Value.int (nI _) :: _) _ _ _ _); refine ev_if_eqN (tgt := 94) dX9_readsLetters_87 (by decide) (by first | exact hB _ _ | omega) (fun c_87 => ?_) (fun c_87 => ?_)) | (refine ev_if_eqZ (tgt := 94) dX9_readsLetters_87 (by decide) (fun c_87 => ?_) (fun c_87 => ?_))
            · refine ev_iconst (v := nI 0) dX9_readsLetters_94 rfl ?_
              exact ev_iret dX9_readsLetters_95 rfl (by first | rfl | exact bI_n _) (by first | exact bR0 (by rw [tLet_0 hm c_62]) | exact bR0 (by rw [tLet_i hm c_62]; first | (simp [tAnd, c_70, c_78, c_87]; done) | (simp [tAnd, c_70, c_78]; done) | (simp [tAnd, c_70]; done)) | exact bR1 (by rw [tLet_i hm c_62]; simp [tAnd, c_70, c_78, c_87])) (by first | exact ⟨by rw [tLet_0 hm c_62]; subst c_62; exact hg, FR⟩ | exact ⟨by rw [tLet_i hm c_62]; first | (simp [tAnd, c_70, c_78, c_87]; exact hg) | (simp [tAnd, c_70, c_78]; exact hg) | (simp [tAnd, c_70]; exact hg), FR⟩) (fun _ e => Option.some.inj e) (Nat.le_of_ble_eq_true rfl) (Nat.le_of_ble_eq_true rfl)
            · refine ev_iconst (v := nI 1) dX9_readsLetters_90 rfl ?_
              refine ev_goto (tgt := 95) dX9_readsLetters_91 (by decide) ?_
              exact ev_iret dX9_readsLetters_95 rfl (by first | rfl | exact bI_n _) (by first | exact bR0 (by rw [tLet_0 hm c_62]) | exact bR0 (by rw [tLet_i hm c_62]; first | (simp [tAnd, c_70, c_78, c_87]; done) | (simp [tAnd, c_70, c_78]; done) | (simp [tAnd, c_70]; done)) | exact bR1 (by rw [tLet_i hm c_62]; simp [tAnd, c_70, c_78, c_87])) (by first | exact ⟨by rw [tLet_0 hm c_62]; subst c_62; exact hg, FR⟩ | exact ⟨by rw [tLet_i hm c_62]; first | (simp [tAnd, c_70, c_78, c_87]; exact hg) | (simp [tAnd, c_70, c_78]; exact hg) | (simp [tAnd, c_70]; exact hg), FR⟩) (fun _ e => Option.some.inj e) (Nat.le_of_ble_eq_true rfl) (Nat.le_of_ble_eq_true rfl)
    · refine ev_aload_n dX9_readsLetters_11 rfl rfl ?_
      refine ev_callVi dX9_readsLetters_12 (c_X9_here hg) rfl lk_X9_43 (by first | assumption | omega | exact eTx.ob (by assumption)) ⟨Nat.le_of_ble_eq_true rfl, Nat.le_of_ble_eq_true rfl⟩ rfl (Nat.le_of_ble_eq_true rfl) ⟨Nat.le_of_ble_eq_true rfl, Nat.le_of_ble_eq_true rfl⟩ (eRo ?_)
      refine ev_bipush (v := nI 65) dX9_readsLetters_15 rfl ?_
      first | ((with_reducible show eV _ _ _ (Value.int (nI _) :: Value.int (nI _) :: _) _ _ _ _); refine ev_icmp_ltN (tgt := 61) dX9_readsLetters_17 (by decide) (by first | exact hB _ _ | omega) (by first | exact hB _ _ | omega) (fun c_17 => ?_) (fun c_17 => ?_)) | ((with_reducible show eV _ _ _ (Value.int (nI _) :: _) _ _ _ _); refine ev_icmp_ltZN (tgt := 61) dX9_readsLetters_17 (by decide) (by first | exact hB _ _ | omega) (fun c_17 => ?_) (fun c_17 => ?_)) | ((with_reducible show eV _ _ _ (_ :: Value.int (nI _) :: _) _ _ _ _); refine ev_icmp_ltNZ (tgt := 61) dX9_readsLetters_17 (by decide) (by first | exact hB _ _ | omega) (fun c_17 => ?_) (fun c_17 => ?_)) | (refine ev_icmp_ltZZ (tgt := 61) dX9_readsLetters_17 (by decide) (fun c_17 => ?_) (fun c_17 => ?_))
      · have hm : tLm x ℓ u.1 = i := by first | exact tLm_4 hf hi c_8 | exact tLm_i hf c_8 (tAZ_n t4 (Or.inl c_17)) | exact tLm_i hf c_8 (tAZ_n t4 (Or.inr c_26))
        refine ev_iload_n dX9_readsLetters_61 rfl rfl ?_
        first | ((with_reducible show eV _ _ _ (Value.int (nI _) :: _) _ _ _ _); refine ev_if_leN (tgt := 94) dX9_readsLetters_62 (by decide) (by first | exact hB _ _ | omega) (fun c_62 => ?_) (fun c_62 => ?_)) | (refine ev_if_leZ (tgt := 94) dX9_readsLetters_62 (by decide) (fun c_62 => ?_) (fun c_62 => ?_))
        · refine ev_iconst (v := nI 0) dX9_readsLetters_94 rfl ?_
          exact ev_iret dX9_readsLetters_95 rfl (by first | rfl | exact bI_n _) (by first | exact bR0 (by rw [tLet_0 hm c_62]) | exact bR0 (by rw [tLet_i hm c_62]; first | (simp [tAnd, c_70, c_78, c_87]; done) | (simp [tAnd, c_70, c_78]; done) | (simp [tAnd, c_70]; done)) | exact bR1 (by rw [tLet_i hm c_62]; simp [tAnd, c_70, c_78, c_87])) (by first | exact ⟨by rw [tLet_0 hm c_62]; subst c_62; exact hg, FR⟩ | exact ⟨by rw [tLet_i hm c_62]; first | (simp [tAnd, c_70, c_78, c_87]; exact hg) | (simp [tAnd, c_70, c_78]; exact hg) | (simp [tAnd, c_70]; exact hg), FR⟩) (fun _ e => Option.some.inj e) (Nat.le_of_ble_eq_true rfl) (Nat.le_of_ble_eq_true rfl)
        · refine ev_aload_n dX9_readsLetters_65 rfl rfl ?_
          refine ev_iload_n dX9_readsLetters_66 rfl rfl ?_
          refine ev_callVi dX9_readsLetters_67 (c_X9_tells hg) rfl lk_X9_61 (by first | assumption | omega | exact eTx.ob (by assumption)) ⟨Nat.le_of_ble_eq_true rfl, Nat.le_of_ble_eq_true rfl⟩ rfl (Nat.le_of_ble_eq_true rfl) ⟨Nat.le_of_ble_eq_true rfl, Nat.le_of_ble_eq_true rfl⟩ (fun g_67 hg_67 => ?_)
          obtain ⟨w_67, fr_67⟩ := hg_67
          replace hg := w_67
          first | replace FR := eFr.trans FR (eFr.one fr_67 (by omega) (by omega)) | replace FR := eFr.trans FR (eFr.wide fr_67 (by omega) (by omega))
          first | ((with_reducible show eV _ _ _ (Value.int (bI _) :: _) _ _ _ _); refine ev_if_eqB (tgt := 94) dX9_readsLetters_70 (by decide) (fun c_70 => ?_) (fun c_70 => ?_)) | ((with_reducible show eV _ _ _ (Value.int (nI _) :: _) _ _ _ _); refine ev_if_eqN (tgt := 94) dX9_readsLetters_70 (by decide) (by first | exact hB _ _ | omega) (fun c_70 => ?_) (fun c_70 => ?_)) | (refine ev_if_eqZ (tgt := 94) dX9_readsLetters_70 (by decide) (fun c_70 => ?_) (fun c_70 => ?_))
          · refine ev_iconst (v := nI 0) dX9_readsLetters_94 rfl ?_
            exact ev_iret dX9_readsLetters_95 rfl (by first | rfl | exact bI_n _) (by first | exact bR0 (by rw [tLet_0 hm c_62]) | exact bR0 (by rw [tLet_i hm c_62]; first | (simp [tAnd, c_70, c_78, c_87]; done) | (simp [tAnd, c_70, c_78]; done) | (simp [tAnd, c_70]; done)) | exact bR1 (by rw [tLet_i hm c_62]; simp [tAnd, c_70, c_78, c_87])) (by first | exact ⟨by rw [tLet_0 hm c_62]; subst c_62; exact hg, FR⟩ | exact ⟨by rw [tLet_i hm c_62]; first | (simp [tAnd, c_70, c_78, c_87]; exact hg) | (simp [tAnd, c_70, c_78]; exact hg) | (simp [tAnd, c_70]; exact hg), FR⟩) (fun _ e => Option.some.inj e) (Nat.le_of_ble_eq_true rfl) (Nat.le_of_ble_eq_true rfl)
          · refine ev_aload_n dX9_readsLetters_73 rfl rfl ?_
            refine ev_iload_n dX9_readsLetters_74 rfl rfl ?_
            refine ev_callVi dX9_readsLetters_75 (c_X9_tells hg) rfl lk_X9_61 (by first | assumption | omega | exact eTx.ob (by assumption)) ⟨Nat.le_of_ble_eq_true rfl, Nat.le_of_ble_eq_true rfl⟩ rfl (Nat.le_of_ble_eq_true rfl) ⟨Nat.le_of_ble_eq_true rfl, Nat.le_of_ble_eq_true rfl⟩ (fun g_75 hg_75 => ?_)
            obtain ⟨w_75, fr_75⟩ := hg_75
            replace hg := w_75
            first | replace FR := eFr.trans FR (eFr.one fr_75 (by omega) (by omega)) | replace FR := eFr.trans FR (eFr.wide fr_75 (by omega) (by omega))
            first | ((with_reducible show eV _ _ _ (Value.int (bI _) :: _) _ _ _ _); refine ev_if_eqB (tgt := 94) dX9_readsLetters_78 (by decide) (fun c_78 => ?_) (fun c_78 => ?_)) | ((with_reducible show eV _ _ _ (Value.int (nI _) :: _) _ _ _ _); refine ev_if_eqN (tgt := 94) dX9_readsLetters_78 (by decide) (by first | exact hB _ _ | omega) (fun c_78 => ?_) (fun c_78 => ?_)) | (refine ev_if_eqZ (tgt := 94) dX9_readsLetters_78 (by decide) (fun c_78 => ?_) (fun c_78 => ?_))
            · refine ev_iconst (v := nI 0) dX9_readsLetters_94 rfl ?_
              exact ev_iret dX9_readsLetters_95 rfl (by first | rfl | exact bI_n _) (by first | exact bR0 (by rw [tLet_0 hm c_62]) | exact bR0 (by rw [tLet_i hm c_62]; first | (simp [tAnd, c_70, c_78, c_87]; done) | (simp [tAnd, c_70, c_78]; done) | (simp [tAnd, c_70]; done)) | exact bR1 (by rw [tLet_i hm c_62]; simp [tAnd, c_70, c_78, c_87])) (by first | exact ⟨by rw [tLet_0 hm c_62]; subst c_62; exact hg, FR⟩ | exact ⟨by rw [tLet_i hm c_62]; first | (simp [tAnd, c_70, c_78, c_87]; exact hg) | (simp [tAnd, c_70, c_78]; exact hg) | (simp [tAnd, c_70]; exact hg), FR⟩) (fun _ e => Option.some.inj e) (Nat.le_of_ble_eq_true rfl) (Nat.le_of_ble_eq_true rfl)
            · refine ev_aload_n dX9_readsLetters_81 rfl rfl ?_
              refine ev_bipush (v := nI 46) dX9_readsLetters_82 rfl ?_
              refine ev_callVi dX9_readsLetters_84 (c_X9_reads hg (by decide)) rfl lk_X9_39 (by first | assumption | omega | exact eTx.ob (by assumption)) ⟨Nat.le_of_ble_eq_true rfl, Nat.le_of_ble_eq_true rfl⟩ rfl (Nat.le_of_ble_eq_true rfl) ⟨Nat.le_of_ble_eq_true rfl, Nat.le_of_ble_eq_true rfl⟩ (fun g_84 hg_84 => ?_)
              obtain ⟨w_84, fr_84⟩ := hg_84
              replace hg := w_84
              first | replace FR := eFr.trans FR (eFr.one fr_84 (by omega) (by omega)) | replace FR := eFr.trans FR (eFr.wide fr_84 (by omega) (by omega))
              first | ((with_reducible show eV _ _ _ (Value.int (bI _) :: _) _ _ _ _); refine ev_if_eqB (tgt := 94) dX9_readsLetters_87 (by decide) (fun c_87 => ?_) (fun c_87 => ?_)) | ((with_reducible show eV _ _ _ (Value.int (nI _) :: _) _ _ _ _); refine ev_if_eqN (tgt := 94) dX9_readsLetters_87 (by decide) (by first | exact hB _ _ | omega) (fun c_87 => ?_) (fun c_87 => ?_)) | (refine ev_if_eqZ (tgt := 94) dX9_readsLetters_87 (by decide) (fun c_87 => ?_) (fun c_87 => ?_))
              · refine ev_iconst (v := nI 0) dX9_readsLetters_94 rfl ?_
                exact ev_iret dX9_readsLetters_95 rfl (by first | rfl | exact bI_n _) (by first | exact bR0 (by rw [tLet_0 hm c_62]) | exact bR0 (by rw [tLet_i hm c_62]; first | (simp [tAnd, c_70, c_78, c_87]; done) | (simp [tAnd, c_70, c_78]; done) | (simp [tAnd, c_70]; done)) | exact bR1 (by rw [tLet_i hm c_62]; simp [tAnd, c_70, c_78, c_87])) (by first | exact ⟨by rw [tLet_0 hm c_62]; subst c_62; exact hg, FR⟩ | exact ⟨by rw [tLet_i hm c_62]; first | (simp [tAnd, c_70, c_78, c_87]; exact hg) | (simp [tAnd, c_70, c_78]; exact hg) | (simp [tAnd, c_70]; exact hg), FR⟩) (fun _ e => Option.some.inj e) (Nat.le_of_ble_eq_true rfl) (Nat.le_of_ble_eq_true rfl)
              · refine ev_iconst (v := nI 1) dX9_readsLetters_90 rfl ?_
                refine ev_goto (tgt := 95) dX9_readsLetters_91 (by decide) ?_
                exact ev_iret dX9_readsLetters_95 rfl (by first | rfl | exact bI_n _) (by first | exact bR0 (by rw [tLet_0 hm c_62]) | exact bR0 (by rw [tLet_i hm c_62]; first | (simp [tAnd, c_70, c_78, c_87]; done) | (simp [tAnd, c_70, c_78]; done) | (simp [tAnd, c_70]; done)) | exact bR1 (by rw [tLet_i hm c_62]; simp [tAnd, c_70, c_78, c_87])) (by first | exact ⟨by rw [tLet_0 hm c_62]; subst c_62; exact hg, FR⟩ | exact ⟨by rw [tLet_i hm c_62]; first | (simp [tAnd, c_70, c_78, c_87]; exact hg) | (simp [tAnd, c_70, c_78]; exact hg) | (simp [tAnd, c_70]; exact hg), FR⟩) (fun _ e => Option.some.inj e) (Nat.le_of_ble_eq_true rfl) (Nat.le_of_ble_eq_true rfl)
      · refine ev_aload_n dX9_readsLetters_20 rfl rfl ?_
        refine ev_callVi dX9_readsLetters_21 (c_X9_here hg) rfl lk_X9_43 (by first | assumption | omega | exact eTx.ob (by assumption)) ⟨Nat.le_of_ble_eq_true rfl, Nat.le_of_ble_eq_true rfl⟩ rfl (Nat.le_of_ble_eq_true rfl) ⟨Nat.le_of_ble_eq_true rfl, Nat.le_of_ble_eq_true rfl⟩ (eRo ?_)
        refine ev_bipush (v := nI 90) dX9_readsLetters_24 rfl ?_
        first | ((with_reducible show eV _ _ _ (Value.int (nI _) :: Value.int (nI _) :: _) _ _ _ _); refine ev_icmp_gtN (tgt := 61) dX9_readsLetters_26 (by decide) (by first | exact hB _ _ | omega) (by first | exact hB _ _ | omega) (fun c_26 => ?_) (fun c_26 => ?_)) | ((with_reducible show eV _ _ _ (Value.int (nI _) :: _) _ _ _ _); refine ev_icmp_gtZN (tgt := 61) dX9_readsLetters_26 (by decide) (by first | exact hB _ _ | omega) (fun c_26 => ?_) (fun c_26 => ?_)) | ((with_reducible show eV _ _ _ (_ :: Value.int (nI _) :: _) _ _ _ _); refine ev_icmp_gtNZ (tgt := 61) dX9_readsLetters_26 (by decide) (by first | exact hB _ _ | omega) (fun c_26 => ?_) (fun c_26 => ?_)) | (refine ev_icmp_gtZZ (tgt := 61) dX9_readsLetters_26 (by decide) (fun c_26 => ?_) (fun c_26 => ?_))
        · have hm : tLm x ℓ u.1 = i := by first | exact tLm_4 hf hi c_8 | exact tLm_i hf c_8 (tAZ_n t4 (Or.inl c_17)) | exact tLm_i hf c_8 (tAZ_n t4 (Or.inr c_26))
          refine ev_iload_n dX9_readsLetters_61 rfl rfl ?_
          first | ((with_reducible show eV _ _ _ (Value.int (nI _) :: _) _ _ _ _); refine ev_if_leN (tgt := 94) dX9_readsLetters_62 (by decide) (by first | exact hB _ _ | omega) (fun c_62 => ?_) (fun c_62 => ?_)) | (refine ev_if_leZ (tgt := 94) dX9_readsLetters_62 (by decide) (fun c_62 => ?_) (fun c_62 => ?_))
          · refine ev_iconst (v := nI 0) dX9_readsLetters_94 rfl ?_
            exact ev_iret dX9_readsLetters_95 rfl (by first | rfl | exact bI_n _) (by first | exact bR0 (by rw [tLet_0 hm c_62]) | exact bR0 (by rw [tLet_i hm c_62]; first | (simp [tAnd, c_70, c_78, c_87]; done) | (simp [tAnd, c_70, c_78]; done) | (simp [tAnd, c_70]; done)) | exact bR1 (by rw [tLet_i hm c_62]; simp [tAnd, c_70, c_78, c_87])) (by first | exact ⟨by rw [tLet_0 hm c_62]; subst c_62; exact hg, FR⟩ | exact ⟨by rw [tLet_i hm c_62]; first | (simp [tAnd, c_70, c_78, c_87]; exact hg) | (simp [tAnd, c_70, c_78]; exact hg) | (simp [tAnd, c_70]; exact hg), FR⟩) (fun _ e => Option.some.inj e) (Nat.le_of_ble_eq_true rfl) (Nat.le_of_ble_eq_true rfl)
          · refine ev_aload_n dX9_readsLetters_65 rfl rfl ?_
            refine ev_iload_n dX9_readsLetters_66 rfl rfl ?_
            refine ev_callVi dX9_readsLetters_67 (c_X9_tells hg) rfl lk_X9_61 (by first | assumption | omega | exact eTx.ob (by assumption)) ⟨Nat.le_of_ble_eq_true rfl, Nat.le_of_ble_eq_true rfl⟩ rfl (Nat.le_of_ble_eq_true rfl) ⟨Nat.le_of_ble_eq_true rfl, Nat.le_of_ble_eq_true rfl⟩ (fun g_67 hg_67 => ?_)
            obtain ⟨w_67, fr_67⟩ := hg_67
            replace hg := w_67
            first | replace FR := eFr.trans FR (eFr.one fr_67 (by omega) (by omega)) | replace FR := eFr.trans FR (eFr.wide fr_67 (by omega) (by omega))
            first | ((with_reducible show eV _ _ _ (Value.int (bI _) :: _) _ _ _ _); refine ev_if_eqB (tgt := 94) dX9_readsLetters_70 (by decide) (fun c_70 => ?_) (fun c_70 => ?_)) | ((with_reducible show eV _ _ _ (Value.int (nI _) :: _) _ _ _ _); refine ev_if_eqN (tgt := 94) dX9_readsLetters_70 (by decide) (by first | exact hB _ _ | omega) (fun c_70 => ?_) (fun c_70 => ?_)) | (refine ev_if_eqZ (tgt := 94) dX9_readsLetters_70 (by decide) (fun c_70 => ?_) (fun c_70 => ?_))
            · refine ev_iconst (v := nI 0) dX9_readsLetters_94 rfl ?_
              exact ev_iret dX9_readsLetters_95 rfl (by first | rfl | exact bI_n _) (by first | exact bR0 (by rw [tLet_0 hm c_62]) | exact bR0 (by rw [tLet_i hm c_62]; first | (simp [tAnd, c_70, c_78, c_87]; done) | (simp [tAnd, c_70, c_78]; done) | (simp [tAnd, c_70]; done)) | exact bR1 (by rw [tLet_i hm c_62]; simp [tAnd, c_70, c_78, c_87])) (by first | exact ⟨by rw [tLet_0 hm c_62]; subst c_62; exact hg, FR⟩ | exact ⟨by rw [tLet_i hm c_62]; first | (simp [tAnd, c_70, c_78, c_87]; exact hg) | (simp [tAnd, c_70, c_78]; exact hg) | (simp [tAnd, c_70]; exact hg), FR⟩) (fun _ e => Option.some.inj e) (Nat.le_of_ble_eq_true rfl) (Nat.le_of_ble_eq_true rfl)
            · refine ev_aload_n dX9_readsLetters_73 rfl rfl ?_
              refine ev_iload_n dX9_readsLetters_74 rfl rfl ?_
              refine ev_callVi dX9_readsLetters_75 (c_X9_tells hg) rfl lk_X9_61 (by first | assumption | omega | exact eTx.ob (by assumption)) ⟨Nat.le_of_ble_eq_true rfl, Nat.le_of_ble_eq_true rfl⟩ rfl (Nat.le_of_ble_eq_true rfl) ⟨Nat.le_of_ble_eq_true rfl, Nat.le_of_ble_eq_true rfl⟩ (fun g_75 hg_75 => ?_)
              obtain ⟨w_75, fr_75⟩ := hg_75
              replace hg := w_75
              first | replace FR := eFr.trans FR (eFr.one fr_75 (by omega) (by omega)) | replace FR := eFr.trans FR (eFr.wide fr_75 (by omega) (by omega))
              first | ((with_reducible show eV _ _ _ (Value.int (bI _) :: _) _ _ _ _); refine ev_if_eqB (tgt := 94) dX9_readsLetters_78 (by decide) (fun c_78 => ?_) (fun c_78 => ?_)) | ((with_reducible show eV _ _ _ (Value.int (nI _) :: _) _ _ _ _); refine ev_if_eqN (tgt := 94) dX9_readsLetters_78 (by decide) (by first | exact hB _ _ | omega) (fun c_78 => ?_) (fun c_78 => ?_)) | (refine ev_if_eqZ (tgt := 94) dX9_readsLetters_78 (by decide) (fun c_78 => ?_) (fun c_78 => ?_))
              · refine ev_iconst (v := nI 0) dX9_readsLetters_94 rfl ?_
                exact ev_iret dX9_readsLetters_95 rfl (by first | rfl | exact bI_n _) (by first | exact bR0 (by rw [tLet_0 hm c_62]) | exact bR0 (by rw [tLet_i hm c_62]; first | (simp [tAnd, c_70, c_78, c_87]; done) | (simp [tAnd, c_70, c_78]; done) | (simp [tAnd, c_70]; done)) | exact bR1 (by rw [tLet_i hm c_62]; simp [tAnd, c_70, c_78, c_87])) (by first | exact ⟨by rw [tLet_0 hm c_62]; subst c_62; exact hg, FR⟩ | exact ⟨by rw [tLet_i hm c_62]; first | (simp [tAnd, c_70, c_78, c_87]; exact hg) | (simp [tAnd, c_70, c_78]; exact hg) | (simp [tAnd, c_70]; exact hg), FR⟩) (fun _ e => Option.some.inj e) (Nat.le_of_ble_eq_true rfl) (Nat.le_of_ble_eq_true rfl)
              · refine ev_aload_n dX9_readsLetters_81 rfl rfl ?_
                refine ev_bipush (v := nI 46) dX9_readsLetters_82 rfl ?_
                refine ev_callVi dX9_readsLetters_84 (c_X9_reads hg (by decide)) rfl lk_X9_39 (by first | assumption | omega | exact eTx.ob (by assumption)) ⟨Nat.le_of_ble_eq_true rfl, Nat.le_of_ble_eq_true rfl⟩ rfl (Nat.le_of_ble_eq_true rfl) ⟨Nat.le_of_ble_eq_true rfl, Nat.le_of_ble_eq_true rfl⟩ (fun g_84 hg_84 => ?_)
                obtain ⟨w_84, fr_84⟩ := hg_84
                replace hg := w_84
                first | replace FR := eFr.trans FR (eFr.one fr_84 (by omega) (by omega)) | replace FR := eFr.trans FR (eFr.wide fr_84 (by omega) (by omega))
                first | ((with_reducible show eV _ _ _ (Value.int (bI _) :: _) _ _ _ _); refine ev_if_eqB (tgt := 94) dX9_readsLetters_87 (by decide) (fun c_87 => ?_) (fun c_87 => ?_)) | ((with_reducible show eV _ _ _ (Value.int (nI _) :: _) _ _ _ _); refine ev_if_eqN (tgt := 94) dX9_readsLetters_87 (by decide) (by first | exact hB _ _ | omega) (fun c_87 => ?_) (fun c_87 => ?_)) | (refine ev_if_eqZ (tgt := 94) dX9_readsLetters_87 (by decide) (fun c_87 => ?_) (fun c_87 => ?_))
                · refine ev_iconst (v := nI 0) dX9_readsLetters_94 rfl ?_
                  exact ev_iret dX9_readsLetters_95 rfl (by first | rfl | exact bI_n _) (by first | exact bR0 (by rw [tLet_0 hm c_62]) | exact bR0 (by rw [tLet_i hm c_62]; first | (simp [tAnd, c_70, c_78, c_87]; done) | (simp [tAnd, c_70, c_78]; done) | (simp [tAnd, c_70]; done)) | exact bR1 (by rw [tLet_i hm c_62]; simp [tAnd, c_70, c_78, c_87])) (by first | exact ⟨by rw [tLet_0 hm c_62]; subst c_62; exact hg, FR⟩ | exact ⟨by rw [tLet_i hm c_62]; first | (simp [tAnd, c_70, c_78, c_87]; exact hg) | (simp [tAnd, c_70, c_78]; exact hg) | (simp [tAnd, c_70]; exact hg), FR⟩) (fun _ e => Option.some.inj e) (Nat.le_of_ble_eq_true rfl) (Nat.le_of_ble_eq_true rfl)
                · refine ev_iconst (v := nI 1) dX9_readsLetters_90 rfl ?_
                  refine ev_goto (tgt := 95) dX9_readsLetters_91 (by decide) ?_
                  exact ev_iret dX9_readsLetters_95 rfl (by first | rfl | exact bI_n _) (by first | exact bR0 (by rw [tLet_0 hm c_62]) | exact bR0 (by rw [tLet_i hm c_62]; first | (simp [tAnd, c_70, c_78, c_87]; done) | (simp [tAnd, c_70, c_78]; done) | (simp [tAnd, c_70]; done)) | exact bR1 (by rw [tLet_i hm c_62]; simp [tAnd, c_70, c_78, c_87])) (by first | exact ⟨by rw [tLet_0 hm c_62]; subst c_62; exact hg, FR⟩ | exact ⟨by rw [tLet_i hm c_62]; first | (simp [tAnd, c_70, c_78, c_87]; exact hg) | (simp [tAnd, c_70, c_78]; exact hg) | (simp [tAnd, c_70]; exact hg), FR⟩) (fun _ e => Option.some.inj e) (Nat.le_of_ble_eq_true rfl) (Nat.le_of_ble_eq_true rfl)
        · have hAZ := tAZ_y (p := u.1 + i) t4 c_17 c_26
          refine ev_iload_n dX9_readsLetters_29 rfl rfl ?_
          refine ev_bipush (v := nI 26) dX9_readsLetters_30 rfl ?_
          first | refine ev_imulN dX9_readsLetters_32 ?_ | refine ev_imul dX9_readsLetters_32 ?_
          refine ev_aload_n dX9_readsLetters_33 rfl rfl ?_
          refine ev_callVi dX9_readsLetters_34 (c_X9_here hg) rfl lk_X9_43 (by first | assumption | omega | exact eTx.ob (by assumption)) ⟨Nat.le_of_ble_eq_true rfl, Nat.le_of_ble_eq_true rfl⟩ rfl (Nat.le_of_ble_eq_true rfl) ⟨Nat.le_of_ble_eq_true rfl, Nat.le_of_ble_eq_true rfl⟩ (eRo ?_)
          rw [show oI (tHere x ℓ (tGo u i).1) = nI (x (u.1 + i)) from congrArg oI hAZ.2.1]
          refine ev_bipush (v := nI 65) dX9_readsLetters_37 rfl ?_
          first | refine ev_isubN dX9_readsLetters_39 (by first | assumption | omega | exact eTx.ob (by assumption)) ?_ | refine ev_isub dX9_readsLetters_39 ?_
          first | refine ev_iaddN dX9_readsLetters_40 ?_ | refine ev_iadd dX9_readsLetters_40 ?_
          refine ev_istore_n dX9_readsLetters_41 rfl (Nat.le_of_ble_eq_true rfl) ?_
          first | refine ev_iincN dX9_readsLetters_42 rfl (Nat.le_of_ble_eq_true rfl) ?_ | refine ev_iinc dX9_readsLetters_42 rfl rfl (Nat.le_of_ble_eq_true rfl) ?_
          refine ev_aload_n dX9_readsLetters_45 rfl rfl ?_
          refine ev_dup dX9_readsLetters_46 rfl ?_
          refine ev_getfield dX9_readsLetters_47 fl_X9_19 (by first | assumption | omega | exact eTx.ob (by assumption)) rfl ?_
          refine ev_iconst (v := nI 1) dX9_readsLetters_50 rfl ?_
          first | refine ev_iaddN dX9_readsLetters_51 ?_ | refine ev_iadd dX9_readsLetters_51 ?_
          refine ev_putH dX9_readsLetters_52 pl_X9_19 (by first | assumption | omega | exact eTx.ob (by assumption)) (Nat.le_of_ble_eq_true rfl) rfl rfl (fun g_52 fr_52 w_52 => ?_)
          replace t0 := w_52
          first | replace t1 := eArr.fr t1 (fr_52 _ (by omega)) | replace t1 := Eq.trans (fr_52 _ (by omega)) t1 | replace t1 := eBo.fr t1 (fr_52 _ (by omega)) | replace t1 := z_52 t1 | replace t1 := z_52 | replace t1 := ePp.fr1 t1 (fun a _ _ => fr_52 a (by omega)) | replace t1 := eNm.fr1 t1 (fun a _ _ => fr_52 a (by omega)) | replace t1 := eRg.fr t1 (fun a _ _ => fr_52 a (by omega))
          first | replace t2 := eArr.fr t2 (fr_52 _ (by omega)) | replace t2 := Eq.trans (fr_52 _ (by omega)) t2 | replace t2 := eBo.fr t2 (fr_52 _ (by omega)) | replace t2 := z_52 t2 | replace t2 := z_52 | replace t2 := ePp.fr1 t2 (fun a _ _ => fr_52 a (by omega)) | replace t2 := eNm.fr1 t2 (fun a _ _ => fr_52 a (by omega)) | replace t2 := eRg.fr t2 (fun a _ _ => fr_52 a (by omega))
          first | replace FR := eFr.trans FR (eFr.one fr_52 (by omega) (by omega)) | replace FR := eFr.trans FR (eFr.wide fr_52 (by omega) (by omega))
          first | refine ev_iincN dX9_readsLetters_55 rfl (Nat.le_of_ble_eq_true rfl) ?_ | refine ev_iinc dX9_readsLetters_55 rfl rfl (Nat.le_of_ble_eq_true rfl) ?_
          refine ev_goto (tgt := 6) dX9_readsLetters_58 (by decide) ?_
          exact (ih_6 _ (by omega) (i + 1) _ rfl (by first | omega | assumption | rfl) (by exact fst_s hf (by simp [hAZ.1])) (by exact ⟨t0, t1, t2, by show u.1 + (i + 1) ≤ 120; omega, t4⟩) (by first | omega | assumption | rfl)).sub1 ⟨rfl, rfl, rfl, rfl, trivial⟩ rfl
  exact (H_6 _ 0 h rfl (by first | omega | assumption | rfl) (by first | omega | assumption | rfl) (by first | omega | assumption | rfl) (by first | omega | assumption | rfl)).sub1 ⟨rfl, rfl, rfl, rfl, trivial⟩ rfl
theorem lks_X9_readCommand {x : Nat → Nat} {ℓ p : Nat} (a : ¬ tHere x ℓ p = some 98) (b : ¬ tHere x ℓ p = some 99) (c : ¬ tHere x ℓ p = some 103) (d : ¬ tHere x ℓ p = some 112) (e : ¬ tHere x ℓ p = some 115) (f : ¬ tHere x ℓ p = some 121) (hx : ∀ j, x j < 256) : Op.lookupswitch.offset (#[(98, 197), (99, 141), (103, 101), (112, 59), (115, 230), (121, 172)] : Array (Int × Int)).toList 264 (oI (tHere x ℓ p)).toInt = 264 := by
  cases hh : tHere x ℓ p with
  | none => decide +kernel
  | some s =>
    rw [hh] at a b c d e f
    have hs : s < 2 ^ 31 := tHere_b hx s hh
    have ez : (oI (some s)).toInt = (s : Int) := nI_toInt hs
    rw [ez]
    have a1 : ¬ ((98 : Int) = (s : Int)) := fun z => a (by congr 1; omega)
    have a2 : ¬ ((99 : Int) = (s : Int)) := fun z => b (by congr 1; omega)
    have a3 : ¬ ((103 : Int) = (s : Int)) := fun z => c (by congr 1; omega)
    have a4 : ¬ ((112 : Int) = (s : Int)) := fun z => d (by congr 1; omega)
    have a5 : ¬ ((115 : Int) = (s : Int)) := fun z => e (by congr 1; omega)
    have a6 : ¬ ((121 : Int) = (s : Int)) := fun z => f (by congr 1; omega)
    have b1 := Ne.symm a1
    have b2 := Ne.symm a2
    have b3 := Ne.symm a3
    have b4 := Ne.symm a4
    have b5 := Ne.symm a5
    have b6 := Ne.symm a6
    simp [Op.lookupswitch.offset, a1, a2, a3, a4, a5, a6, b1, b2, b3, b4, b5, b6]
theorem tCmd_p {x : Nat → Nat} {ℓ : Nat} {u : Cur} (h : tHere x ℓ u.1 = some 112) : tCmd x ℓ u = tAnd (tAnd (tAnd (tSign x ℓ 112 (u.1, 0, u.2.2)) (tPair x ℓ 99)) (tDigit x ℓ 0 5)) (tDigit x ℓ 0 3) := by unfold tCmd; rw [h]; simp
theorem tCmd_g {x : Nat → Nat} {ℓ : Nat} {u : Cur} (h : tHere x ℓ u.1 = some 103) : tCmd x ℓ u = tAnd (tAnd (tAnd (tSign x ℓ 103 (u.1, 0, u.2.2)) (tPair x ℓ 11)) (tPair x ℓ 11)) (tLetters x ℓ) := by unfold tCmd; rw [h]; simp
theorem tCmd_c {x : Nat → Nat} {ℓ : Nat} {u : Cur} (h : tHere x ℓ u.1 = some 99) : tCmd x ℓ u = tAnd (tAnd (tSign x ℓ 99 (u.1, 0, u.2.2)) (tDigit x ℓ 0 3)) (tLetters x ℓ) := by unfold tCmd; rw [h]; simp
theorem tCmd_y {x : Nat → Nat} {ℓ : Nat} {u : Cur} (h : tHere x ℓ u.1 = some 121) : tCmd x ℓ u = tAnd (tSign x ℓ 121 (u.1, 0, u.2.2)) (tDigit x ℓ 1 9) := by unfold tCmd; rw [h]; simp
theorem tCmd_b {x : Nat → Nat} {ℓ : Nat} {u : Cur} (h : tHere x ℓ u.1 = some 98) : tCmd x ℓ u = tAnd (tAnd (tSign x ℓ 98 (u.1, 0, u.2.2)) (tPair x ℓ 11)) (tDigit x ℓ 0 3) := by unfold tCmd; rw [h]; simp
theorem tCmd_s {x : Nat → Nat} {ℓ : Nat} {u : Cur} (h : tHere x ℓ u.1 = some 115) : tCmd x ℓ u = tAnd (tAnd (tSign x ℓ 115 (u.1, 0, u.2.2)) (tDigit x ℓ 0 2)) (tDigit x ℓ 0 9) := by unfold tCmd; rw [h]; simp
theorem tCmd_d {x : Nat → Nat} {ℓ : Nat} {u : Cur} (a : ¬ tHere x ℓ u.1 = some 98) (b : ¬ tHere x ℓ u.1 = some 99) (c : ¬ tHere x ℓ u.1 = some 103) (d : ¬ tHere x ℓ u.1 = some 112) (e : ¬ tHere x ℓ u.1 = some 115) (f : ¬ tHere x ℓ u.1 = some 121) : tCmd x ℓ u = (false, (u.1, 0, u.2.2)) := by unfold tCmd; rw [if_neg d, if_neg c, if_neg b, if_neg f, if_neg a, if_neg e]
set_option maxHeartbeats 4000000 in
set_option maxRecDepth 20000 in
theorem c_X9_readCommand {h : eH} {n q : Nat} {x : Nat → Nat} {ℓ : Nat} {k : Option Nat} {u : Cur} (hT : eTx h q x ℓ k u) : kX9_readCommand [.ref q] h n (.inl (some (.int (bI (tCmd x ℓ u).1))), (fun g => eTx g q x ℓ (tHere x ℓ u.1) (tCmd x ℓ u).2 ∧ eFr h g q (q + 3)), some n) 0 0 := by
  refine eM.of RX9 "readCommand" [(0, .ref q)] pn_X9 rfl rfl (Nat.le_of_ble_eq_true rfl) rfl ?_
  obtain ⟨t0, t1, t2, t3, t4⟩ := id hT
  have FR : eFr h h q (q + 3) := eFr.rf
  refine ev_aload_n dX9_readCommand_0 rfl rfl ?_
  refine ev_aload_n dX9_readCommand_1 rfl rfl ?_
  refine ev_callVi dX9_readCommand_2 (c_X9_here (by first | assumption | omega | exact eTx.ob (by assumption))) rfl lk_X9_43 (by first | assumption | omega | exact eTx.ob (by assumption)) ⟨Nat.le_of_ble_eq_true rfl, Nat.le_of_ble_eq_true rfl⟩ rfl (Nat.le_of_ble_eq_true rfl) ⟨Nat.le_of_ble_eq_true rfl, Nat.le_of_ble_eq_true rfl⟩ (eRo ?_)
  refine ev_putH dX9_readCommand_5 pl_X9_22 (by first | assumption | omega | exact eTx.ob (by assumption)) (Nat.le_of_ble_eq_true rfl) rfl rfl (fun g_5 fr_5 w_5 => ?_)
  replace t0 := w_5
  first | replace t1 := eArr.fr t1 (fr_5 _ (by omega)) | replace t1 := Eq.trans (fr_5 _ (by omega)) t1 | replace t1 := eBo.fr t1 (fr_5 _ (by omega)) | replace t1 := z_5 t1 | replace t1 := z_5 | replace t1 := ePp.fr1 t1 (fun a _ _ => fr_5 a (by omega)) | replace t1 := eNm.fr1 t1 (fun a _ _ => fr_5 a (by omega)) | replace t1 := eRg.fr t1 (fun a _ _ => fr_5 a (by omega))
  first | replace t2 := eArr.fr t2 (fr_5 _ (by omega)) | replace t2 := Eq.trans (fr_5 _ (by omega)) t2 | replace t2 := eBo.fr t2 (fr_5 _ (by omega)) | replace t2 := z_5 t2 | replace t2 := z_5 | replace t2 := ePp.fr1 t2 (fun a _ _ => fr_5 a (by omega)) | replace t2 := eNm.fr1 t2 (fun a _ _ => fr_5 a (by omega)) | replace t2 := eRg.fr t2 (fun a _ _ => fr_5 a (by omega))
  first | replace FR := eFr.trans FR (eFr.one fr_5 (by omega) (by omega)) | replace FR := eFr.trans FR (eFr.wide fr_5 (by omega) (by omega))
  refine ev_aload_n dX9_readCommand_8 rfl rfl ?_
  refine ev_iconst (v := nI 0) dX9_readCommand_9 rfl ?_
  refine ev_putH dX9_readCommand_10 pl_X9_29 (by first | assumption | omega | exact eTx.ob (by assumption)) (Nat.le_of_ble_eq_true rfl) rfl rfl (fun g_10 fr_10 w_10 => ?_)
  replace t0 := w_10
  first | replace t1 := eArr.fr t1 (fr_10 _ (by omega)) | replace t1 := Eq.trans (fr_10 _ (by omega)) t1 | replace t1 := eBo.fr t1 (fr_10 _ (by omega)) | replace t1 := z_10 t1 | replace t1 := z_10 | replace t1 := ePp.fr1 t1 (fun a _ _ => fr_10 a (by omega)) | replace t1 := eNm.fr1 t1 (fun a _ _ => fr_10 a (by omega)) | replace t1 := eRg.fr t1 (fun a _ _ => fr_10 a (by omega))
  first | replace t2 := eArr.fr t2 (fr_10 _ (by omega)) | replace t2 := Eq.trans (fr_10 _ (by omega)) t2 | replace t2 := eBo.fr t2 (fr_10 _ (by omega)) | replace t2 := z_10 t2 | replace t2 := z_10 | replace t2 := ePp.fr1 t2 (fun a _ _ => fr_10 a (by omega)) | replace t2 := eNm.fr1 t2 (fun a _ _ => fr_10 a (by omega)) | replace t2 := eRg.fr t2 (fun a _ _ => fr_10 a (by omega))
  first | replace FR := eFr.trans FR (eFr.one fr_10 (by omega) (by omega)) | replace FR := eFr.trans FR (eFr.wide fr_10 (by omega) (by omega))
  have hg : eTx g_10 q x ℓ (tHere x ℓ u.1) (u.1, 0, u.2.2) := ⟨t0, t1, t2.nil, t3, t4⟩
  refine ev_aload_n dX9_readCommand_13 rfl rfl ?_
  refine ev_getfield dX9_readCommand_14 fl_X9_22 (by first | assumption | omega | exact eTx.ob (by assumption)) rfl ?_
  by_cases z_17_98 : tHere x ℓ u.1 = some 98
  · refine ev_lookup (off := 197) (tgt := 214) dX9_readCommand_17 (by decide +kernel) (by rw [z_17_98]; decide +kernel) (by decide) ?_
    refine ev_aload_n dX9_readCommand_214 rfl rfl ?_
    refine ev_bipush (v := nI 98) dX9_readCommand_215 rfl ?_
    refine ev_callVi dX9_readCommand_217 (c_X9_reads hg (by decide)) rfl lk_X9_39 (by first | assumption | omega | exact eTx.ob (by assumption)) ⟨Nat.le_of_ble_eq_true rfl, Nat.le_of_ble_eq_true rfl⟩ rfl (Nat.le_of_ble_eq_true rfl) ⟨Nat.le_of_ble_eq_true rfl, Nat.le_of_ble_eq_true rfl⟩ (fun g_217 hg_217 => ?_)
    obtain ⟨w_217, fr_217⟩ := hg_217
    replace hg := w_217
    first | replace FR := eFr.trans FR (eFr.one fr_217 (by omega) (by omega)) | replace FR := eFr.trans FR (eFr.wide fr_217 (by omega) (by omega))
    first | ((with_reducible show eV _ _ _ (Value.int (bI _) :: _) _ _ _ _); refine ev_if_eqB (tgt := 245) dX9_readCommand_220 (by decide) (fun c_220 => ?_) (fun c_220 => ?_)) | ((with_reducible show eV _ _ _ (Value.int (nI _) :: _) _ _ _ _); refine ev_if_eqN (tgt := 245) dX9_readCommand_220 (by decide) (by first | exact hB _ _ | omega) (fun c_220 => ?_) (fun c_220 => ?_)) | (refine ev_if_eqZ (tgt := 245) dX9_readCommand_220 (by decide) (fun c_220 => ?_) (fun c_220 => ?_))
    · refine ev_iconst (v := nI 0) dX9_readCommand_245 rfl ?_
      exact ev_iret dX9_readCommand_246 rfl (by first | rfl | exact bI_n _) (by first | exact bR0 (by rw [tCmd_b z_17_98]; first | (simp [tAnd, c_220, c_229, c_238]; done) | (simp [tAnd, c_220, c_229]; done) | (simp [tAnd, c_220]; done)) | exact bR1 (by rw [tCmd_b z_17_98]; simp [tAnd, c_220, c_229, c_238])) (by exact ⟨by rw [tCmd_b z_17_98]; first | (simp [tAnd, c_220, c_229, c_238]; exact hg) | (simp [tAnd, c_220, c_229]; exact hg) | (simp [tAnd, c_220]; exact hg), FR⟩) (fun _ e => Option.some.inj e) (Nat.le_of_ble_eq_true rfl) (Nat.le_of_ble_eq_true rfl)
    · refine ev_aload_n dX9_readCommand_223 rfl rfl ?_
      refine ev_bipush (v := nI 11) dX9_readCommand_224 rfl ?_
      refine ev_callVi dX9_readCommand_226 (c_X9_readsPair hg (by decide)) rfl lk_X9_47 (by first | assumption | omega | exact eTx.ob (by assumption)) ⟨Nat.le_of_ble_eq_true rfl, Nat.le_of_ble_eq_true rfl⟩ rfl (Nat.le_of_ble_eq_true rfl) ⟨Nat.le_of_ble_eq_true rfl, Nat.le_of_ble_eq_true rfl⟩ (fun g_226 hg_226 => ?_)
      obtain ⟨w_226, fr_226⟩ := hg_226
      replace hg := w_226
      first | replace FR := eFr.trans FR (eFr.one fr_226 (by omega) (by omega)) | replace FR := eFr.trans FR (eFr.wide fr_226 (by omega) (by omega))
      first | ((with_reducible show eV _ _ _ (Value.int (bI _) :: _) _ _ _ _); refine ev_if_eqB (tgt := 245) dX9_readCommand_229 (by decide) (fun c_229 => ?_) (fun c_229 => ?_)) | ((with_reducible show eV _ _ _ (Value.int (nI _) :: _) _ _ _ _); refine ev_if_eqN (tgt := 245) dX9_readCommand_229 (by decide) (by first | exact hB _ _ | omega) (fun c_229 => ?_) (fun c_229 => ?_)) | (refine ev_if_eqZ (tgt := 245) dX9_readCommand_229 (by decide) (fun c_229 => ?_) (fun c_229 => ?_))
      · refine ev_iconst (v := nI 0) dX9_readCommand_245 rfl ?_
        exact ev_iret dX9_readCommand_246 rfl (by first | rfl | exact bI_n _) (by first | exact bR0 (by rw [tCmd_b z_17_98]; first | (simp [tAnd, c_220, c_229, c_238]; done) | (simp [tAnd, c_220, c_229]; done) | (simp [tAnd, c_220]; done)) | exact bR1 (by rw [tCmd_b z_17_98]; simp [tAnd, c_220, c_229, c_238])) (by exact ⟨by rw [tCmd_b z_17_98]; first | (simp [tAnd, c_220, c_229, c_238]; exact hg) | (simp [tAnd, c_220, c_229]; exact hg) | (simp [tAnd, c_220]; exact hg), FR⟩) (fun _ e => Option.some.inj e) (Nat.le_of_ble_eq_true rfl) (Nat.le_of_ble_eq_true rfl)
      · refine ev_aload_n dX9_readCommand_232 rfl rfl ?_
        refine ev_iconst (v := nI 0) dX9_readCommand_233 rfl ?_
        refine ev_iconst (v := nI 3) dX9_readCommand_234 rfl ?_
        refine ev_callVi dX9_readCommand_235 (c_X9_readsDigit hg (by decide) (by decide)) rfl lk_X9_50 (by first | assumption | omega | exact eTx.ob (by assumption)) ⟨Nat.le_of_ble_eq_true rfl, Nat.le_of_ble_eq_true rfl⟩ rfl (Nat.le_of_ble_eq_true rfl) ⟨Nat.le_of_ble_eq_true rfl, Nat.le_of_ble_eq_true rfl⟩ (fun g_235 hg_235 => ?_)
        obtain ⟨w_235, fr_235⟩ := hg_235
        replace hg := w_235
        first | replace FR := eFr.trans FR (eFr.one fr_235 (by omega) (by omega)) | replace FR := eFr.trans FR (eFr.wide fr_235 (by omega) (by omega))
        first | ((with_reducible show eV _ _ _ (Value.int (bI _) :: _) _ _ _ _); refine ev_if_eqB (tgt := 245) dX9_readCommand_238 (by decide) (fun c_238 => ?_) (fun c_238 => ?_)) | ((with_reducible show eV _ _ _ (Value.int (nI _) :: _) _ _ _ _); refine ev_if_eqN (tgt := 245) dX9_readCommand_238 (by decide) (by first | exact hB _ _ | omega) (fun c_238 => ?_) (fun c_238 => ?_)) | (refine ev_if_eqZ (tgt := 245) dX9_readCommand_238 (by decide) (fun c_238 => ?_) (fun c_238 => ?_))
        · refine ev_iconst (v := nI 0) dX9_readCommand_245 rfl ?_
          exact ev_iret dX9_readCommand_246 rfl (by first | rfl | exact bI_n _) (by first | exact bR0 (by rw [tCmd_b z_17_98]; first | (simp [tAnd, c_220, c_229, c_238]; done) | (simp [tAnd, c_220, c_229]; done) | (simp [tAnd, c_220]; done)) | exact bR1 (by rw [tCmd_b z_17_98]; simp [tAnd, c_220, c_229, c_238])) (by exact ⟨by rw [tCmd_b z_17_98]; first | (simp [tAnd, c_220, c_229, c_238]; exact hg) | (simp [tAnd, c_220, c_229]; exact hg) | (simp [tAnd, c_220]; exact hg), FR⟩) (fun _ e => Option.some.inj e) (Nat.le_of_ble_eq_true rfl) (Nat.le_of_ble_eq_true rfl)
        · refine ev_iconst (v := nI 1) dX9_readCommand_241 rfl ?_
          refine ev_goto (tgt := 246) dX9_readCommand_242 (by decide) ?_
          exact ev_iret dX9_readCommand_246 rfl (by first | rfl | exact bI_n _) (by first | exact bR0 (by rw [tCmd_b z_17_98]; first | (simp [tAnd, c_220, c_229, c_238]; done) | (simp [tAnd, c_220, c_229]; done) | (simp [tAnd, c_220]; done)) | exact bR1 (by rw [tCmd_b z_17_98]; simp [tAnd, c_220, c_229, c_238])) (by exact ⟨by rw [tCmd_b z_17_98]; first | (simp [tAnd, c_220, c_229, c_238]; exact hg) | (simp [tAnd, c_220, c_229]; exact hg) | (simp [tAnd, c_220]; exact hg), FR⟩) (fun _ e => Option.some.inj e) (Nat.le_of_ble_eq_true rfl) (Nat.le_of_ble_eq_true rfl)
  by_cases z_17_99 : tHere x ℓ u.1 = some 99
  · refine ev_lookup (off := 141) (tgt := 158) dX9_readCommand_17 (by decide +kernel) (by rw [z_17_99]; decide +kernel) (by decide) ?_
    refine ev_aload_n dX9_readCommand_158 rfl rfl ?_
    refine ev_bipush (v := nI 99) dX9_readCommand_159 rfl ?_
    refine ev_callVi dX9_readCommand_161 (c_X9_reads hg (by decide)) rfl lk_X9_39 (by first | assumption | omega | exact eTx.ob (by assumption)) ⟨Nat.le_of_ble_eq_true rfl, Nat.le_of_ble_eq_true rfl⟩ rfl (Nat.le_of_ble_eq_true rfl) ⟨Nat.le_of_ble_eq_true rfl, Nat.le_of_ble_eq_true rfl⟩ (fun g_161 hg_161 => ?_)
    obtain ⟨w_161, fr_161⟩ := hg_161
    replace hg := w_161
    first | replace FR := eFr.trans FR (eFr.one fr_161 (by omega) (by omega)) | replace FR := eFr.trans FR (eFr.wide fr_161 (by omega) (by omega))
    first | ((with_reducible show eV _ _ _ (Value.int (bI _) :: _) _ _ _ _); refine ev_if_eqB (tgt := 187) dX9_readCommand_164 (by decide) (fun c_164 => ?_) (fun c_164 => ?_)) | ((with_reducible show eV _ _ _ (Value.int (nI _) :: _) _ _ _ _); refine ev_if_eqN (tgt := 187) dX9_readCommand_164 (by decide) (by first | exact hB _ _ | omega) (fun c_164 => ?_) (fun c_164 => ?_)) | (refine ev_if_eqZ (tgt := 187) dX9_readCommand_164 (by decide) (fun c_164 => ?_) (fun c_164 => ?_))
    · refine ev_iconst (v := nI 0) dX9_readCommand_187 rfl ?_
      exact ev_iret dX9_readCommand_188 rfl (by first | rfl | exact bI_n _) (by first | exact bR0 (by rw [tCmd_c z_17_99]; first | (simp [tAnd, c_164, c_173, c_180]; done) | (simp [tAnd, c_164, c_173]; done) | (simp [tAnd, c_164]; done)) | exact bR1 (by rw [tCmd_c z_17_99]; simp [tAnd, c_164, c_173, c_180])) (by exact ⟨by rw [tCmd_c z_17_99]; first | (simp [tAnd, c_164, c_173, c_180]; exact hg) | (simp [tAnd, c_164, c_173]; exact hg) | (simp [tAnd, c_164]; exact hg), FR⟩) (fun _ e => Option.some.inj e) (Nat.le_of_ble_eq_true rfl) (Nat.le_of_ble_eq_true rfl)
    · refine ev_aload_n dX9_readCommand_167 rfl rfl ?_
      refine ev_iconst (v := nI 0) dX9_readCommand_168 rfl ?_
      refine ev_iconst (v := nI 3) dX9_readCommand_169 rfl ?_
      refine ev_callVi dX9_readCommand_170 (c_X9_readsDigit hg (by decide) (by decide)) rfl lk_X9_50 (by first | assumption | omega | exact eTx.ob (by assumption)) ⟨Nat.le_of_ble_eq_true rfl, Nat.le_of_ble_eq_true rfl⟩ rfl (Nat.le_of_ble_eq_true rfl) ⟨Nat.le_of_ble_eq_true rfl, Nat.le_of_ble_eq_true rfl⟩ (fun g_170 hg_170 => ?_)
      obtain ⟨w_170, fr_170⟩ := hg_170
      replace hg := w_170
      first | replace FR := eFr.trans FR (eFr.one fr_170 (by omega) (by omega)) | replace FR := eFr.trans FR (eFr.wide fr_170 (by omega) (by omega))
      first | ((with_reducible show eV _ _ _ (Value.int (bI _) :: _) _ _ _ _); refine ev_if_eqB (tgt := 187) dX9_readCommand_173 (by decide) (fun c_173 => ?_) (fun c_173 => ?_)) | ((with_reducible show eV _ _ _ (Value.int (nI _) :: _) _ _ _ _); refine ev_if_eqN (tgt := 187) dX9_readCommand_173 (by decide) (by first | exact hB _ _ | omega) (fun c_173 => ?_) (fun c_173 => ?_)) | (refine ev_if_eqZ (tgt := 187) dX9_readCommand_173 (by decide) (fun c_173 => ?_) (fun c_173 => ?_))
      · refine ev_iconst (v := nI 0) dX9_readCommand_187 rfl ?_
        exact ev_iret dX9_readCommand_188 rfl (by first | rfl | exact bI_n _) (by first | exact bR0 (by rw [tCmd_c z_17_99]; first | (simp [tAnd, c_164, c_173, c_180]; done) | (simp [tAnd, c_164, c_173]; done) | (simp [tAnd, c_164]; done)) | exact bR1 (by rw [tCmd_c z_17_99]; simp [tAnd, c_164, c_173, c_180])) (by exact ⟨by rw [tCmd_c z_17_99]; first | (simp [tAnd, c_164, c_173, c_180]; exact hg) | (simp [tAnd, c_164, c_173]; exact hg) | (simp [tAnd, c_164]; exact hg), FR⟩) (fun _ e => Option.some.inj e) (Nat.le_of_ble_eq_true rfl) (Nat.le_of_ble_eq_true rfl)
      · refine ev_aload_n dX9_readCommand_176 rfl rfl ?_
        refine ev_callVi dX9_readCommand_177 (c_X9_readsLetters hg) rfl lk_X9_54 (by first | assumption | omega | exact eTx.ob (by assumption)) ⟨Nat.le_of_ble_eq_true rfl, Nat.le_of_ble_eq_true rfl⟩ rfl (Nat.le_of_ble_eq_true rfl) ⟨Nat.le_of_ble_eq_true rfl, Nat.le_of_ble_eq_true rfl⟩ (fun g_177 hg_177 => ?_)
        obtain ⟨w_177, fr_177⟩ := hg_177
        replace hg := w_177
        first | replace FR := eFr.trans FR (eFr.one fr_177 (by omega) (by omega)) | replace FR := eFr.trans FR (eFr.wide fr_177 (by omega) (by omega))
        first | ((with_reducible show eV _ _ _ (Value.int (bI _) :: _) _ _ _ _); refine ev_if_eqB (tgt := 187) dX9_readCommand_180 (by decide) (fun c_180 => ?_) (fun c_180 => ?_)) | ((with_reducible show eV _ _ _ (Value.int (nI _) :: _) _ _ _ _); refine ev_if_eqN (tgt := 187) dX9_readCommand_180 (by decide) (by first | exact hB _ _ | omega) (fun c_180 => ?_) (fun c_180 => ?_)) | (refine ev_if_eqZ (tgt := 187) dX9_readCommand_180 (by decide) (fun c_180 => ?_) (fun c_180 => ?_))
        · refine ev_iconst (v := nI 0) dX9_readCommand_187 rfl ?_
          exact ev_iret dX9_readCommand_188 rfl (by first | rfl | exact bI_n _) (by first | exact bR0 (by rw [tCmd_c z_17_99]; first | (simp [tAnd, c_164, c_173, c_180]; done) | (simp [tAnd, c_164, c_173]; done) | (simp [tAnd, c_164]; done)) | exact bR1 (by rw [tCmd_c z_17_99]; simp [tAnd, c_164, c_173, c_180])) (by exact ⟨by rw [tCmd_c z_17_99]; first | (simp [tAnd, c_164, c_173, c_180]; exact hg) | (simp [tAnd, c_164, c_173]; exact hg) | (simp [tAnd, c_164]; exact hg), FR⟩) (fun _ e => Option.some.inj e) (Nat.le_of_ble_eq_true rfl) (Nat.le_of_ble_eq_true rfl)
        · refine ev_iconst (v := nI 1) dX9_readCommand_183 rfl ?_
          refine ev_goto (tgt := 188) dX9_readCommand_184 (by decide) ?_
          exact ev_iret dX9_readCommand_188 rfl (by first | rfl | exact bI_n _) (by first | exact bR0 (by rw [tCmd_c z_17_99]; first | (simp [tAnd, c_164, c_173, c_180]; done) | (simp [tAnd, c_164, c_173]; done) | (simp [tAnd, c_164]; done)) | exact bR1 (by rw [tCmd_c z_17_99]; simp [tAnd, c_164, c_173, c_180])) (by exact ⟨by rw [tCmd_c z_17_99]; first | (simp [tAnd, c_164, c_173, c_180]; exact hg) | (simp [tAnd, c_164, c_173]; exact hg) | (simp [tAnd, c_164]; exact hg), FR⟩) (fun _ e => Option.some.inj e) (Nat.le_of_ble_eq_true rfl) (Nat.le_of_ble_eq_true rfl)
  by_cases z_17_103 : tHere x ℓ u.1 = some 103
  · refine ev_lookup (off := 101) (tgt := 118) dX9_readCommand_17 (by decide +kernel) (by rw [z_17_103]; decide +kernel) (by decide) ?_
    refine ev_aload_n dX9_readCommand_118 rfl rfl ?_
    refine ev_bipush (v := nI 103) dX9_readCommand_119 rfl ?_
    refine ev_callVi dX9_readCommand_121 (c_X9_reads hg (by decide)) rfl lk_X9_39 (by first | assumption | omega | exact eTx.ob (by assumption)) ⟨Nat.le_of_ble_eq_true rfl, Nat.le_of_ble_eq_true rfl⟩ rfl (Nat.le_of_ble_eq_true rfl) ⟨Nat.le_of_ble_eq_true rfl, Nat.le_of_ble_eq_true rfl⟩ (fun g_121 hg_121 => ?_)
    obtain ⟨w_121, fr_121⟩ := hg_121
    replace hg := w_121
    first | replace FR := eFr.trans FR (eFr.one fr_121 (by omega) (by omega)) | replace FR := eFr.trans FR (eFr.wide fr_121 (by omega) (by omega))
    first | ((with_reducible show eV _ _ _ (Value.int (bI _) :: _) _ _ _ _); refine ev_if_eqB (tgt := 156) dX9_readCommand_124 (by decide) (fun c_124 => ?_) (fun c_124 => ?_)) | ((with_reducible show eV _ _ _ (Value.int (nI _) :: _) _ _ _ _); refine ev_if_eqN (tgt := 156) dX9_readCommand_124 (by decide) (by first | exact hB _ _ | omega) (fun c_124 => ?_) (fun c_124 => ?_)) | (refine ev_if_eqZ (tgt := 156) dX9_readCommand_124 (by decide) (fun c_124 => ?_) (fun c_124 => ?_))
    · refine ev_iconst (v := nI 0) dX9_readCommand_156 rfl ?_
      exact ev_iret dX9_readCommand_157 rfl (by first | rfl | exact bI_n _) (by first | exact bR0 (by rw [tCmd_g z_17_103]; first | (simp [tAnd, c_124, c_133, c_142, c_149]; done) | (simp [tAnd, c_124, c_133, c_142]; done) | (simp [tAnd, c_124, c_133]; done) | (simp [tAnd, c_124]; done)) | exact bR1 (by rw [tCmd_g z_17_103]; simp [tAnd, c_124, c_133, c_142, c_149])) (by exact ⟨by rw [tCmd_g z_17_103]; first | (simp [tAnd, c_124, c_133, c_142, c_149]; exact hg) | (simp [tAnd, c_124, c_133, c_142]; exact hg) | (simp [tAnd, c_124, c_133]; exact hg) | (simp [tAnd, c_124]; exact hg), FR⟩) (fun _ e => Option.some.inj e) (Nat.le_of_ble_eq_true rfl) (Nat.le_of_ble_eq_true rfl)
    · refine ev_aload_n dX9_readCommand_127 rfl rfl ?_
      refine ev_bipush (v := nI 11) dX9_readCommand_128 rfl ?_
      refine ev_callVi dX9_readCommand_130 (c_X9_readsPair hg (by decide)) rfl lk_X9_47 (by first | assumption | omega | exact eTx.ob (by assumption)) ⟨Nat.le_of_ble_eq_true rfl, Nat.le_of_ble_eq_true rfl⟩ rfl (Nat.le_of_ble_eq_true rfl) ⟨Nat.le_of_ble_eq_true rfl, Nat.le_of_ble_eq_true rfl⟩ (fun g_130 hg_130 => ?_)
      obtain ⟨w_130, fr_130⟩ := hg_130
      replace hg := w_130
      first | replace FR := eFr.trans FR (eFr.one fr_130 (by omega) (by omega)) | replace FR := eFr.trans FR (eFr.wide fr_130 (by omega) (by omega))
      first | ((with_reducible show eV _ _ _ (Value.int (bI _) :: _) _ _ _ _); refine ev_if_eqB (tgt := 156) dX9_readCommand_133 (by decide) (fun c_133 => ?_) (fun c_133 => ?_)) | ((with_reducible show eV _ _ _ (Value.int (nI _) :: _) _ _ _ _); refine ev_if_eqN (tgt := 156) dX9_readCommand_133 (by decide) (by first | exact hB _ _ | omega) (fun c_133 => ?_) (fun c_133 => ?_)) | (refine ev_if_eqZ (tgt := 156) dX9_readCommand_133 (by decide) (fun c_133 => ?_) (fun c_133 => ?_))
      · refine ev_iconst (v := nI 0) dX9_readCommand_156 rfl ?_
        exact ev_iret dX9_readCommand_157 rfl (by first | rfl | exact bI_n _) (by first | exact bR0 (by rw [tCmd_g z_17_103]; first | (simp [tAnd, c_124, c_133, c_142, c_149]; done) | (simp [tAnd, c_124, c_133, c_142]; done) | (simp [tAnd, c_124, c_133]; done) | (simp [tAnd, c_124]; done)) | exact bR1 (by rw [tCmd_g z_17_103]; simp [tAnd, c_124, c_133, c_142, c_149])) (by exact ⟨by rw [tCmd_g z_17_103]; first | (simp [tAnd, c_124, c_133, c_142, c_149]; exact hg) | (simp [tAnd, c_124, c_133, c_142]; exact hg) | (simp [tAnd, c_124, c_133]; exact hg) | (simp [tAnd, c_124]; exact hg), FR⟩) (fun _ e => Option.some.inj e) (Nat.le_of_ble_eq_true rfl) (Nat.le_of_ble_eq_true rfl)
      · refine ev_aload_n dX9_readCommand_136 rfl rfl ?_
        refine ev_bipush (v := nI 11) dX9_readCommand_137 rfl ?_
        refine ev_callVi dX9_readCommand_139 (c_X9_readsPair hg (by decide)) rfl lk_X9_47 (by first | assumption | omega | exact eTx.ob (by assumption)) ⟨Nat.le_of_ble_eq_true rfl, Nat.le_of_ble_eq_true rfl⟩ rfl (Nat.le_of_ble_eq_true rfl) ⟨Nat.le_of_ble_eq_true rfl, Nat.le_of_ble_eq_true rfl⟩ (fun g_139 hg_139 => ?_)
        obtain ⟨w_139, fr_139⟩ := hg_139
        replace hg := w_139
        first | replace FR := eFr.trans FR (eFr.one fr_139 (by omega) (by omega)) | replace FR := eFr.trans FR (eFr.wide fr_139 (by omega) (by omega))
        first | ((with_reducible show eV _ _ _ (Value.int (bI _) :: _) _ _ _ _); refine ev_if_eqB (tgt := 156) dX9_readCommand_142 (by decide) (fun c_142 => ?_) (fun c_142 => ?_)) | ((with_reducible show eV _ _ _ (Value.int (nI _) :: _) _ _ _ _); refine ev_if_eqN (tgt := 156) dX9_readCommand_142 (by decide) (by first | exact hB _ _ | omega) (fun c_142 => ?_) (fun c_142 => ?_)) | (refine ev_if_eqZ (tgt := 156) dX9_readCommand_142 (by decide) (fun c_142 => ?_) (fun c_142 => ?_))
        · refine ev_iconst (v := nI 0) dX9_readCommand_156 rfl ?_
          exact ev_iret dX9_readCommand_157 rfl (by first | rfl | exact bI_n _) (by first | exact bR0 (by rw [tCmd_g z_17_103]; first | (simp [tAnd, c_124, c_133, c_142, c_149]; done) | (simp [tAnd, c_124, c_133, c_142]; done) | (simp [tAnd, c_124, c_133]; done) | (simp [tAnd, c_124]; done)) | exact bR1 (by rw [tCmd_g z_17_103]; simp [tAnd, c_124, c_133, c_142, c_149])) (by exact ⟨by rw [tCmd_g z_17_103]; first | (simp [tAnd, c_124, c_133, c_142, c_149]; exact hg) | (simp [tAnd, c_124, c_133, c_142]; exact hg) | (simp [tAnd, c_124, c_133]; exact hg) | (simp [tAnd, c_124]; exact hg), FR⟩) (fun _ e => Option.some.inj e) (Nat.le_of_ble_eq_true rfl) (Nat.le_of_ble_eq_true rfl)
        · refine ev_aload_n dX9_readCommand_145 rfl rfl ?_
          refine ev_callVi dX9_readCommand_146 (c_X9_readsLetters hg) rfl lk_X9_54 (by first | assumption | omega | exact eTx.ob (by assumption)) ⟨Nat.le_of_ble_eq_true rfl, Nat.le_of_ble_eq_true rfl⟩ rfl (Nat.le_of_ble_eq_true rfl) ⟨Nat.le_of_ble_eq_true rfl, Nat.le_of_ble_eq_true rfl⟩ (fun g_146 hg_146 => ?_)
          obtain ⟨w_146, fr_146⟩ := hg_146
          replace hg := w_146
          first | replace FR := eFr.trans FR (eFr.one fr_146 (by omega) (by omega)) | replace FR := eFr.trans FR (eFr.wide fr_146 (by omega) (by omega))
          first | ((with_reducible show eV _ _ _ (Value.int (bI _) :: _) _ _ _ _); refine ev_if_eqB (tgt := 156) dX9_readCommand_149 (by decide) (fun c_149 => ?_) (fun c_149 => ?_)) | ((with_reducible show eV _ _ _ (Value.int (nI _) :: _) _ _ _ _); refine ev_if_eqN (tgt := 156) dX9_readCommand_149 (by decide) (by first | exact hB _ _ | omega) (fun c_149 => ?_) (fun c_149 => ?_)) | (refine ev_if_eqZ (tgt := 156) dX9_readCommand_149 (by decide) (fun c_149 => ?_) (fun c_149 => ?_))
          · refine ev_iconst (v := nI 0) dX9_readCommand_156 rfl ?_
            exact ev_iret dX9_readCommand_157 rfl (by first | rfl | exact bI_n _) (by first | exact bR0 (by rw [tCmd_g z_17_103]; first | (simp [tAnd, c_124, c_133, c_142, c_149]; done) | (simp [tAnd, c_124, c_133, c_142]; done) | (simp [tAnd, c_124, c_133]; done) | (simp [tAnd, c_124]; done)) | exact bR1 (by rw [tCmd_g z_17_103]; simp [tAnd, c_124, c_133, c_142, c_149])) (by exact ⟨by rw [tCmd_g z_17_103]; first | (simp [tAnd, c_124, c_133, c_142, c_149]; exact hg) | (simp [tAnd, c_124, c_133, c_142]; exact hg) | (simp [tAnd, c_124, c_133]; exact hg) | (simp [tAnd, c_124]; exact hg), FR⟩) (fun _ e => Option.some.inj e) (Nat.le_of_ble_eq_true rfl) (Nat.le_of_ble_eq_true rfl)
          · refine ev_iconst (v := nI 1) dX9_readCommand_152 rfl ?_
            refine ev_goto (tgt := 157) dX9_readCommand_153 (by decide) ?_
            exact ev_iret dX9_readCommand_157 rfl (by first | rfl | exact bI_n _) (by first | exact bR0 (by rw [tCmd_g z_17_103]; first | (simp [tAnd, c_124, c_133, c_142, c_149]; done) | (simp [tAnd, c_124, c_133, c_142]; done) | (simp [tAnd, c_124, c_133]; done) | (simp [tAnd, c_124]; done)) | exact bR1 (by rw [tCmd_g z_17_103]; simp [tAnd, c_124, c_133, c_142, c_149])) (by exact ⟨by rw [tCmd_g z_17_103]; first | (simp [tAnd, c_124, c_133, c_142, c_149]; exact hg) | (simp [tAnd, c_124, c_133, c_142]; exact hg) | (simp [tAnd, c_124, c_133]; exact hg) | (simp [tAnd, c_124]; exact hg), FR⟩) (fun _ e => Option.some.inj e) (Nat.le_of_ble_eq_true rfl) (Nat.le_of_ble_eq_true rfl)
  by_cases z_17_112 : tHere x ℓ u.1 = some 112
  · refine ev_lookup (off := 59) (tgt := 76) dX9_readCommand_17 (by decide +kernel) (by rw [z_17_112]; decide +kernel) (by decide) ?_
    refine ev_aload_n dX9_readCommand_76 rfl rfl ?_
    refine ev_bipush (v := nI 112) dX9_readCommand_77 rfl ?_
    refine ev_callVi dX9_readCommand_79 (c_X9_reads hg (by decide)) rfl lk_X9_39 (by first | assumption | omega | exact eTx.ob (by assumption)) ⟨Nat.le_of_ble_eq_true rfl, Nat.le_of_ble_eq_true rfl⟩ rfl (Nat.le_of_ble_eq_true rfl) ⟨Nat.le_of_ble_eq_true rfl, Nat.le_of_ble_eq_true rfl⟩ (fun g_79 hg_79 => ?_)
    obtain ⟨w_79, fr_79⟩ := hg_79
    replace hg := w_79
    first | replace FR := eFr.trans FR (eFr.one fr_79 (by omega) (by omega)) | replace FR := eFr.trans FR (eFr.wide fr_79 (by omega) (by omega))
    first | ((with_reducible show eV _ _ _ (Value.int (bI _) :: _) _ _ _ _); refine ev_if_eqB (tgt := 116) dX9_readCommand_82 (by decide) (fun c_82 => ?_) (fun c_82 => ?_)) | ((with_reducible show eV _ _ _ (Value.int (nI _) :: _) _ _ _ _); refine ev_if_eqN (tgt := 116) dX9_readCommand_82 (by decide) (by first | exact hB _ _ | omega) (fun c_82 => ?_) (fun c_82 => ?_)) | (refine ev_if_eqZ (tgt := 116) dX9_readCommand_82 (by decide) (fun c_82 => ?_) (fun c_82 => ?_))
    · refine ev_iconst (v := nI 0) dX9_readCommand_116 rfl ?_
      exact ev_iret dX9_readCommand_117 rfl (by first | rfl | exact bI_n _) (by first | exact bR0 (by rw [tCmd_p z_17_112]; first | (simp [tAnd, c_82, c_91, c_100, c_109]; done) | (simp [tAnd, c_82, c_91, c_100]; done) | (simp [tAnd, c_82, c_91]; done) | (simp [tAnd, c_82]; done)) | exact bR1 (by rw [tCmd_p z_17_112]; simp [tAnd, c_82, c_91, c_100, c_109])) (by exact ⟨by rw [tCmd_p z_17_112]; first | (simp [tAnd, c_82, c_91, c_100, c_109]; exact hg) | (simp [tAnd, c_82, c_91, c_100]; exact hg) | (simp [tAnd, c_82, c_91]; exact hg) | (simp [tAnd, c_82]; exact hg), FR⟩) (fun _ e => Option.some.inj e) (Nat.le_of_ble_eq_true rfl) (Nat.le_of_ble_eq_true rfl)
    · refine ev_aload_n dX9_readCommand_85 rfl rfl ?_
      refine ev_bipush (v := nI 99) dX9_readCommand_86 rfl ?_
      refine ev_callVi dX9_readCommand_88 (c_X9_readsPair hg (by decide)) rfl lk_X9_47 (by first | assumption | omega | exact eTx.ob (by assumption)) ⟨Nat.le_of_ble_eq_true rfl, Nat.le_of_ble_eq_true rfl⟩ rfl (Nat.le_of_ble_eq_true rfl) ⟨Nat.le_of_ble_eq_true rfl, Nat.le_of_ble_eq_true rfl⟩ (fun g_88 hg_88 => ?_)
      obtain ⟨w_88, fr_88⟩ := hg_88
      replace hg := w_88
      first | replace FR := eFr.trans FR (eFr.one fr_88 (by omega) (by omega)) | replace FR := eFr.trans FR (eFr.wide fr_88 (by omega) (by omega))
      first | ((with_reducible show eV _ _ _ (Value.int (bI _) :: _) _ _ _ _); refine ev_if_eqB (tgt := 116) dX9_readCommand_91 (by decide) (fun c_91 => ?_) (fun c_91 => ?_)) | ((with_reducible show eV _ _ _ (Value.int (nI _) :: _) _ _ _ _); refine ev_if_eqN (tgt := 116) dX9_readCommand_91 (by decide) (by first | exact hB _ _ | omega) (fun c_91 => ?_) (fun c_91 => ?_)) | (refine ev_if_eqZ (tgt := 116) dX9_readCommand_91 (by decide) (fun c_91 => ?_) (fun c_91 => ?_))
      · refine ev_iconst (v := nI 0) dX9_readCommand_116 rfl ?_
        exact ev_iret dX9_readCommand_117 rfl (by first | rfl | exact bI_n _) (by first | exact bR0 (by rw [tCmd_p z_17_112]; first | (simp [tAnd, c_82, c_91, c_100, c_109]; done) | (simp [tAnd, c_82, c_91, c_100]; done) | (simp [tAnd, c_82, c_91]; done) | (simp [tAnd, c_82]; done)) | exact bR1 (by rw [tCmd_p z_17_112]; simp [tAnd, c_82, c_91, c_100, c_109])) (by exact ⟨by rw [tCmd_p z_17_112]; first | (simp [tAnd, c_82, c_91, c_100, c_109]; exact hg) | (simp [tAnd, c_82, c_91, c_100]; exact hg) | (simp [tAnd, c_82, c_91]; exact hg) | (simp [tAnd, c_82]; exact hg), FR⟩) (fun _ e => Option.some.inj e) (Nat.le_of_ble_eq_true rfl) (Nat.le_of_ble_eq_true rfl)
      · refine ev_aload_n dX9_readCommand_94 rfl rfl ?_
        refine ev_iconst (v := nI 0) dX9_readCommand_95 rfl ?_
        refine ev_iconst (v := nI 5) dX9_readCommand_96 rfl ?_
        refine ev_callVi dX9_readCommand_97 (c_X9_readsDigit hg (by decide) (by decide)) rfl lk_X9_50 (by first | assumption | omega | exact eTx.ob (by assumption)) ⟨Nat.le_of_ble_eq_true rfl, Nat.le_of_ble_eq_true rfl⟩ rfl (Nat.le_of_ble_eq_true rfl) ⟨Nat.le_of_ble_eq_true rfl, Nat.le_of_ble_eq_true rfl⟩ (fun g_97 hg_97 => ?_)
        obtain ⟨w_97, fr_97⟩ := hg_97
        replace hg := w_97
        first | replace FR := eFr.trans FR (eFr.one fr_97 (by omega) (by omega)) | replace FR := eFr.trans FR (eFr.wide fr_97 (by omega) (by omega))
        first | ((with_reducible show eV _ _ _ (Value.int (bI _) :: _) _ _ _ _); refine ev_if_eqB (tgt := 116) dX9_readCommand_100 (by decide) (fun c_100 => ?_) (fun c_100 => ?_)) | ((with_reducible show eV _ _ _ (Value.int (nI _) :: _) _ _ _ _); refine ev_if_eqN (tgt := 116) dX9_readCommand_100 (by decide) (by first | exact hB _ _ | omega) (fun c_100 => ?_) (fun c_100 => ?_)) | (refine ev_if_eqZ (tgt := 116) dX9_readCommand_100 (by decide) (fun c_100 => ?_) (fun c_100 => ?_))
        · refine ev_iconst (v := nI 0) dX9_readCommand_116 rfl ?_
          exact ev_iret dX9_readCommand_117 rfl (by first | rfl | exact bI_n _) (by first | exact bR0 (by rw [tCmd_p z_17_112]; first | (simp [tAnd, c_82, c_91, c_100, c_109]; done) | (simp [tAnd, c_82, c_91, c_100]; done) | (simp [tAnd, c_82, c_91]; done) | (simp [tAnd, c_82]; done)) | exact bR1 (by rw [tCmd_p z_17_112]; simp [tAnd, c_82, c_91, c_100, c_109])) (by exact ⟨by rw [tCmd_p z_17_112]; first | (simp [tAnd, c_82, c_91, c_100, c_109]; exact hg) | (simp [tAnd, c_82, c_91, c_100]; exact hg) | (simp [tAnd, c_82, c_91]; exact hg) | (simp [tAnd, c_82]; exact hg), FR⟩) (fun _ e => Option.some.inj e) (Nat.le_of_ble_eq_true rfl) (Nat.le_of_ble_eq_true rfl)
        · refine ev_aload_n dX9_readCommand_103 rfl rfl ?_
          refine ev_iconst (v := nI 0) dX9_readCommand_104 rfl ?_
          refine ev_iconst (v := nI 3) dX9_readCommand_105 rfl ?_
          refine ev_callVi dX9_readCommand_106 (c_X9_readsDigit hg (by decide) (by decide)) rfl lk_X9_50 (by first | assumption | omega | exact eTx.ob (by assumption)) ⟨Nat.le_of_ble_eq_true rfl, Nat.le_of_ble_eq_true rfl⟩ rfl (Nat.le_of_ble_eq_true rfl) ⟨Nat.le_of_ble_eq_true rfl, Nat.le_of_ble_eq_true rfl⟩ (fun g_106 hg_106 => ?_)
          obtain ⟨w_106, fr_106⟩ := hg_106
          replace hg := w_106
          first | replace FR := eFr.trans FR (eFr.one fr_106 (by omega) (by omega)) | replace FR := eFr.trans FR (eFr.wide fr_106 (by omega) (by omega))
          first | ((with_reducible show eV _ _ _ (Value.int (bI _) :: _) _ _ _ _); refine ev_if_eqB (tgt := 116) dX9_readCommand_109 (by decide) (fun c_109 => ?_) (fun c_109 => ?_)) | ((with_reducible show eV _ _ _ (Value.int (nI _) :: _) _ _ _ _); refine ev_if_eqN (tgt := 116) dX9_readCommand_109 (by decide) (by first | exact hB _ _ | omega) (fun c_109 => ?_) (fun c_109 => ?_)) | (refine ev_if_eqZ (tgt := 116) dX9_readCommand_109 (by decide) (fun c_109 => ?_) (fun c_109 => ?_))
          · refine ev_iconst (v := nI 0) dX9_readCommand_116 rfl ?_
            exact ev_iret dX9_readCommand_117 rfl (by first | rfl | exact bI_n _) (by first | exact bR0 (by rw [tCmd_p z_17_112]; first | (simp [tAnd, c_82, c_91, c_100, c_109]; done) | (simp [tAnd, c_82, c_91, c_100]; done) | (simp [tAnd, c_82, c_91]; done) | (simp [tAnd, c_82]; done)) | exact bR1 (by rw [tCmd_p z_17_112]; simp [tAnd, c_82, c_91, c_100, c_109])) (by exact ⟨by rw [tCmd_p z_17_112]; first | (simp [tAnd, c_82, c_91, c_100, c_109]; exact hg) | (simp [tAnd, c_82, c_91, c_100]; exact hg) | (simp [tAnd, c_82, c_91]; exact hg) | (simp [tAnd, c_82]; exact hg), FR⟩) (fun _ e => Option.some.inj e) (Nat.le_of_ble_eq_true rfl) (Nat.le_of_ble_eq_true rfl)
          · refine ev_iconst (v := nI 1) dX9_readCommand_112 rfl ?_
            refine ev_goto (tgt := 117) dX9_readCommand_113 (by decide) ?_
            exact ev_iret dX9_readCommand_117 rfl (by first | rfl | exact bI_n _) (by first | exact bR0 (by rw [tCmd_p z_17_112]; first | (simp [tAnd, c_82, c_91, c_100, c_109]; done) | (simp [tAnd, c_82, c_91, c_100]; done) | (simp [tAnd, c_82, c_91]; done) | (simp [tAnd, c_82]; done)) | exact bR1 (by rw [tCmd_p z_17_112]; simp [tAnd, c_82, c_91, c_100, c_109])) (by exact ⟨by rw [tCmd_p z_17_112]; first | (simp [tAnd, c_82, c_91, c_100, c_109]; exact hg) | (simp [tAnd, c_82, c_91, c_100]; exact hg) | (simp [tAnd, c_82, c_91]; exact hg) | (simp [tAnd, c_82]; exact hg), FR⟩) (fun _ e => Option.some.inj e) (Nat.le_of_ble_eq_true rfl) (Nat.le_of_ble_eq_true rfl)
  by_cases z_17_115 : tHere x ℓ u.1 = some 115
  · refine ev_lookup (off := 230) (tgt := 247) dX9_readCommand_17 (by decide +kernel) (by rw [z_17_115]; decide +kernel) (by decide) ?_
    refine ev_aload_n dX9_readCommand_247 rfl rfl ?_
    refine ev_bipush (v := nI 115) dX9_readCommand_248 rfl ?_
    refine ev_callVi dX9_readCommand_250 (c_X9_reads hg (by decide)) rfl lk_X9_39 (by first | assumption | omega | exact eTx.ob (by assumption)) ⟨Nat.le_of_ble_eq_true rfl, Nat.le_of_ble_eq_true rfl⟩ rfl (Nat.le_of_ble_eq_true rfl) ⟨Nat.le_of_ble_eq_true rfl, Nat.le_of_ble_eq_true rfl⟩ (fun g_250 hg_250 => ?_)
    obtain ⟨w_250, fr_250⟩ := hg_250
    replace hg := w_250
    first | replace FR := eFr.trans FR (eFr.one fr_250 (by omega) (by omega)) | replace FR := eFr.trans FR (eFr.wide fr_250 (by omega) (by omega))
    first | ((with_reducible show eV _ _ _ (Value.int (bI _) :: _) _ _ _ _); refine ev_if_eqB (tgt := 279) dX9_readCommand_253 (by decide) (fun c_253 => ?_) (fun c_253 => ?_)) | ((with_reducible show eV _ _ _ (Value.int (nI _) :: _) _ _ _ _); refine ev_if_eqN (tgt := 279) dX9_readCommand_253 (by decide) (by first | exact hB _ _ | omega) (fun c_253 => ?_) (fun c_253 => ?_)) | (refine ev_if_eqZ (tgt := 279) dX9_readCommand_253 (by decide) (fun c_253 => ?_) (fun c_253 => ?_))
    · refine ev_iconst (v := nI 0) dX9_readCommand_279 rfl ?_
      exact ev_iret dX9_readCommand_280 rfl (by first | rfl | exact bI_n _) (by first | exact bR0 (by rw [tCmd_s z_17_115]; first | (simp [tAnd, c_253, c_262, c_272]; done) | (simp [tAnd, c_253, c_262]; done) | (simp [tAnd, c_253]; done)) | exact bR1 (by rw [tCmd_s z_17_115]; simp [tAnd, c_253, c_262, c_272])) (by exact ⟨by rw [tCmd_s z_17_115]; first | (simp [tAnd, c_253, c_262, c_272]; exact hg) | (simp [tAnd, c_253, c_262]; exact hg) | (simp [tAnd, c_253]; exact hg), FR⟩) (fun _ e => Option.some.inj e) (Nat.le_of_ble_eq_true rfl) (Nat.le_of_ble_eq_true rfl)
    · refine ev_aload_n dX9_readCommand_256 rfl rfl ?_
      refine ev_iconst (v := nI 0) dX9_readCommand_257 rfl ?_
      refine ev_iconst (v := nI 2) dX9_readCommand_258 rfl ?_
      refine ev_callVi dX9_readCommand_259 (c_X9_readsDigit hg (by decide) (by decide)) rfl lk_X9_50 (by first | assumption | omega | exact eTx.ob (by assumption)) ⟨Nat.le_of_ble_eq_true rfl, Nat.le_of_ble_eq_true rfl⟩ rfl (Nat.le_of_ble_eq_true rfl) ⟨Nat.le_of_ble_eq_true rfl, Nat.le_of_ble_eq_true rfl⟩ (fun g_259 hg_259 => ?_)
      obtain ⟨w_259, fr_259⟩ := hg_259
      replace hg := w_259
      first | replace FR := eFr.trans FR (eFr.one fr_259 (by omega) (by omega)) | replace FR := eFr.trans FR (eFr.wide fr_259 (by omega) (by omega))
      first | ((with_reducible show eV _ _ _ (Value.int (bI _) :: _) _ _ _ _); refine ev_if_eqB (tgt := 279) dX9_readCommand_262 (by decide) (fun c_262 => ?_) (fun c_262 => ?_)) | ((with_reducible show eV _ _ _ (Value.int (nI _) :: _) _ _ _ _); refine ev_if_eqN (tgt := 279) dX9_readCommand_262 (by decide) (by first | exact hB _ _ | omega) (fun c_262 => ?_) (fun c_262 => ?_)) | (refine ev_if_eqZ (tgt := 279) dX9_readCommand_262 (by decide) (fun c_262 => ?_) (fun c_262 => ?_))
      · refine ev_iconst (v := nI 0) dX9_readCommand_279 rfl ?_
        exact ev_iret dX9_readCommand_280 rfl (by first | rfl | exact bI_n _) (by first | exact bR0 (by rw [tCmd_s z_17_115]; first | (simp [tAnd, c_253, c_262, c_272]; done) | (simp [tAnd, c_253, c_262]; done) | (simp [tAnd, c_253]; done)) | exact bR1 (by rw [tCmd_s z_17_115]; simp [tAnd, c_253, c_262, c_272])) (by exact ⟨by rw [tCmd_s z_17_115]; first | (simp [tAnd, c_253, c_262, c_272]; exact hg) | (simp [tAnd, c_253, c_262]; exact hg) | (simp [tAnd, c_253]; exact hg), FR⟩) (fun _ e => Option.some.inj e) (Nat.le_of_ble_eq_true rfl) (Nat.le_of_ble_eq_true rfl)
      · refine ev_aload_n dX9_readCommand_265 rfl rfl ?_
        refine ev_iconst (v := nI 0) dX9_readCommand_266 rfl ?_
        refine ev_bipush (v := nI 9) dX9_readCommand_267 rfl ?_
        refine ev_callVi dX9_readCommand_269 (c_X9_readsDigit hg (by decide) (by decide)) rfl lk_X9_50 (by first | assumption | omega | exact eTx.ob (by assumption)) ⟨Nat.le_of_ble_eq_true rfl, Nat.le_of_ble_eq_true rfl⟩ rfl (Nat.le_of_ble_eq_true rfl) ⟨Nat.le_of_ble_eq_true rfl, Nat.le_of_ble_eq_true rfl⟩ (fun g_269 hg_269 => ?_)
        obtain ⟨w_269, fr_269⟩ := hg_269
        replace hg := w_269
        first | replace FR := eFr.trans FR (eFr.one fr_269 (by omega) (by omega)) | replace FR := eFr.trans FR (eFr.wide fr_269 (by omega) (by omega))
        first | ((with_reducible show eV _ _ _ (Value.int (bI _) :: _) _ _ _ _); refine ev_if_eqB (tgt := 279) dX9_readCommand_272 (by decide) (fun c_272 => ?_) (fun c_272 => ?_)) | ((with_reducible show eV _ _ _ (Value.int (nI _) :: _) _ _ _ _); refine ev_if_eqN (tgt := 279) dX9_readCommand_272 (by decide) (by first | exact hB _ _ | omega) (fun c_272 => ?_) (fun c_272 => ?_)) | (refine ev_if_eqZ (tgt := 279) dX9_readCommand_272 (by decide) (fun c_272 => ?_) (fun c_272 => ?_))
        · refine ev_iconst (v := nI 0) dX9_readCommand_279 rfl ?_
          exact ev_iret dX9_readCommand_280 rfl (by first | rfl | exact bI_n _) (by first | exact bR0 (by rw [tCmd_s z_17_115]; first | (simp [tAnd, c_253, c_262, c_272]; done) | (simp [tAnd, c_253, c_262]; done) | (simp [tAnd, c_253]; done)) | exact bR1 (by rw [tCmd_s z_17_115]; simp [tAnd, c_253, c_262, c_272])) (by exact ⟨by rw [tCmd_s z_17_115]; first | (simp [tAnd, c_253, c_262, c_272]; exact hg) | (simp [tAnd, c_253, c_262]; exact hg) | (simp [tAnd, c_253]; exact hg), FR⟩) (fun _ e => Option.some.inj e) (Nat.le_of_ble_eq_true rfl) (Nat.le_of_ble_eq_true rfl)
        · refine ev_iconst (v := nI 1) dX9_readCommand_275 rfl ?_
          refine ev_goto (tgt := 280) dX9_readCommand_276 (by decide) ?_
          exact ev_iret dX9_readCommand_280 rfl (by first | rfl | exact bI_n _) (by first | exact bR0 (by rw [tCmd_s z_17_115]; first | (simp [tAnd, c_253, c_262, c_272]; done) | (simp [tAnd, c_253, c_262]; done) | (simp [tAnd, c_253]; done)) | exact bR1 (by rw [tCmd_s z_17_115]; simp [tAnd, c_253, c_262, c_272])) (by exact ⟨by rw [tCmd_s z_17_115]; first | (simp [tAnd, c_253, c_262, c_272]; exact hg) | (simp [tAnd, c_253, c_262]; exact hg) | (simp [tAnd, c_253]; exact hg), FR⟩) (fun _ e => Option.some.inj e) (Nat.le_of_ble_eq_true rfl) (Nat.le_of_ble_eq_true rfl)
  by_cases z_17_121 : tHere x ℓ u.1 = some 121
  · refine ev_lookup (off := 172) (tgt := 189) dX9_readCommand_17 (by decide +kernel) (by rw [z_17_121]; decide +kernel) (by decide) ?_
    refine ev_aload_n dX9_readCommand_189 rfl rfl ?_
    refine ev_bipush (v := nI 121) dX9_readCommand_190 rfl ?_
    refine ev_callVi dX9_readCommand_192 (c_X9_reads hg (by decide)) rfl lk_X9_39 (by first | assumption | omega | exact eTx.ob (by assumption)) ⟨Nat.le_of_ble_eq_true rfl, Nat.le_of_ble_eq_true rfl⟩ rfl (Nat.le_of_ble_eq_true rfl) ⟨Nat.le_of_ble_eq_true rfl, Nat.le_of_ble_eq_true rfl⟩ (fun g_192 hg_192 => ?_)
    obtain ⟨w_192, fr_192⟩ := hg_192
    replace hg := w_192
    first | replace FR := eFr.trans FR (eFr.one fr_192 (by omega) (by omega)) | replace FR := eFr.trans FR (eFr.wide fr_192 (by omega) (by omega))
    first | ((with_reducible show eV _ _ _ (Value.int (bI _) :: _) _ _ _ _); refine ev_if_eqB (tgt := 212) dX9_readCommand_195 (by decide) (fun c_195 => ?_) (fun c_195 => ?_)) | ((with_reducible show eV _ _ _ (Value.int (nI _) :: _) _ _ _ _); refine ev_if_eqN (tgt := 212) dX9_readCommand_195 (by decide) (by first | exact hB _ _ | omega) (fun c_195 => ?_) (fun c_195 => ?_)) | (refine ev_if_eqZ (tgt := 212) dX9_readCommand_195 (by decide) (fun c_195 => ?_) (fun c_195 => ?_))
    · refine ev_iconst (v := nI 0) dX9_readCommand_212 rfl ?_
      exact ev_iret dX9_readCommand_213 rfl (by first | rfl | exact bI_n _) (by first | exact bR0 (by rw [tCmd_y z_17_121]; first | (simp [tAnd, c_195, c_205]; done) | (simp [tAnd, c_195]; done)) | exact bR1 (by rw [tCmd_y z_17_121]; simp [tAnd, c_195, c_205])) (by exact ⟨by rw [tCmd_y z_17_121]; first | (simp [tAnd, c_195, c_205]; exact hg) | (simp [tAnd, c_195]; exact hg), FR⟩) (fun _ e => Option.some.inj e) (Nat.le_of_ble_eq_true rfl) (Nat.le_of_ble_eq_true rfl)
    · refine ev_aload_n dX9_readCommand_198 rfl rfl ?_
      refine ev_iconst (v := nI 1) dX9_readCommand_199 rfl ?_
      refine ev_bipush (v := nI 9) dX9_readCommand_200 rfl ?_
      refine ev_callVi dX9_readCommand_202 (c_X9_readsDigit hg (by decide) (by decide)) rfl lk_X9_50 (by first | assumption | omega | exact eTx.ob (by assumption)) ⟨Nat.le_of_ble_eq_true rfl, Nat.le_of_ble_eq_true rfl⟩ rfl (Nat.le_of_ble_eq_true rfl) ⟨Nat.le_of_ble_eq_true rfl, Nat.le_of_ble_eq_true rfl⟩ (fun g_202 hg_202 => ?_)
      obtain ⟨w_202, fr_202⟩ := hg_202
      replace hg := w_202
      first | replace FR := eFr.trans FR (eFr.one fr_202 (by omega) (by omega)) | replace FR := eFr.trans FR (eFr.wide fr_202 (by omega) (by omega))
      first | ((with_reducible show eV _ _ _ (Value.int (bI _) :: _) _ _ _ _); refine ev_if_eqB (tgt := 212) dX9_readCommand_205 (by decide) (fun c_205 => ?_) (fun c_205 => ?_)) | ((with_reducible show eV _ _ _ (Value.int (nI _) :: _) _ _ _ _); refine ev_if_eqN (tgt := 212) dX9_readCommand_205 (by decide) (by first | exact hB _ _ | omega) (fun c_205 => ?_) (fun c_205 => ?_)) | (refine ev_if_eqZ (tgt := 212) dX9_readCommand_205 (by decide) (fun c_205 => ?_) (fun c_205 => ?_))
      · refine ev_iconst (v := nI 0) dX9_readCommand_212 rfl ?_
        exact ev_iret dX9_readCommand_213 rfl (by first | rfl | exact bI_n _) (by first | exact bR0 (by rw [tCmd_y z_17_121]; first | (simp [tAnd, c_195, c_205]; done) | (simp [tAnd, c_195]; done)) | exact bR1 (by rw [tCmd_y z_17_121]; simp [tAnd, c_195, c_205])) (by exact ⟨by rw [tCmd_y z_17_121]; first | (simp [tAnd, c_195, c_205]; exact hg) | (simp [tAnd, c_195]; exact hg), FR⟩) (fun _ e => Option.some.inj e) (Nat.le_of_ble_eq_true rfl) (Nat.le_of_ble_eq_true rfl)
      · refine ev_iconst (v := nI 1) dX9_readCommand_208 rfl ?_
        refine ev_goto (tgt := 213) dX9_readCommand_209 (by decide) ?_
        exact ev_iret dX9_readCommand_213 rfl (by first | rfl | exact bI_n _) (by first | exact bR0 (by rw [tCmd_y z_17_121]; first | (simp [tAnd, c_195, c_205]; done) | (simp [tAnd, c_195]; done)) | exact bR1 (by rw [tCmd_y z_17_121]; simp [tAnd, c_195, c_205])) (by exact ⟨by rw [tCmd_y z_17_121]; first | (simp [tAnd, c_195, c_205]; exact hg) | (simp [tAnd, c_195]; exact hg), FR⟩) (fun _ e => Option.some.inj e) (Nat.le_of_ble_eq_true rfl) (Nat.le_of_ble_eq_true rfl)
  refine ev_lookup (off := 264) (tgt := 281) dX9_readCommand_17 (by decide +kernel) (lks_X9_readCommand z_17_98 z_17_99 z_17_103 z_17_112 z_17_115 z_17_121 t4) (by decide) ?_
  refine ev_iconst (v := nI 0) dX9_readCommand_281 rfl ?_
  exact ev_iret dX9_readCommand_282 rfl (by first | rfl | exact bI_n _) (by exact bR0 (by rw [tCmd_d z_17_98 z_17_99 z_17_103 z_17_112 z_17_115 z_17_121])) (by exact ⟨by rw [tCmd_d z_17_98 z_17_99 z_17_103 z_17_112 z_17_115 z_17_121]; exact hg, FR⟩) (fun _ e => Option.some.inj e) (Nat.le_of_ble_eq_true rfl) (Nat.le_of_ble_eq_true rfl)

