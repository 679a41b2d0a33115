def sHasN (σ : St) (p k : Nat) : Bool := decide (p < σ 0 0) && decide (k ≤ sLives σ p)
def sMeansP (σ : St) (b c p : Nat) : Bool := decide (b < 4) && (sCode 1 c && (decide (p < σ 0 0) && decide (some p = sMeant σ b 1 c)))
def sIsSt (σ : St) (k s : Nat) : Bool := decide (k < σ 0 1) && decide (σ 12 k = s)
def sRun (σ : St) (k : Nat) : St × Bool :=
  if k / 100000 = 1 then (if k % 10 = 0 then (sGive σ (k / 10000 % 10) (k / 1000 % 10) 1 (k / 10 % 100), sGiveOK σ (k / 10000 % 10) (k / 1000 % 10) 1 (k / 10 % 100)) else (σ, false))
  else if k / 100000 = 2 then (if k % 100 = 0 then (sCall σ (k / 10000 % 10) 1 (k / 100 % 100), (sCallW σ (k / 10000 % 10) 1 (k / 100 % 100)).isSome) else (σ, false))
  else if k / 100000 = 3 then (if k / 10 % 10000 = 0 then (sPass σ (k % 10), (sPassQ σ (k % 10)).isSome) else (σ, false))
  else if k / 100000 = 4 then (if k / 10 % 1000 = 0 then (sSit σ (k / 10000 % 10) (k % 10), sSitOK σ (k / 10000 % 10) (k % 10)) else (σ, false))
  else if k / 100000 = 5 then (if k / 10 % 1000 = 0 then (sSet σ (k / 10000 % 10) (k % 10), sSetOK (k / 10000 % 10) (k % 10)) else (σ, false))
  else if k / 100000 = 6 then (σ, decide (k / 10 % 1000 = 0) && sHasN σ (k / 10000 % 10) (k % 10))
  else if k / 100000 = 7 then (σ, decide (k % 10 = 0) && sMeansP σ (k / 10000 % 10) (k / 100 % 100) (k / 10 % 10))
  else if k / 100000 = 8 then (σ, decide (k / 100 % 1000 = 0) && decide (k % 100 ≤ sInState σ 1))
  else if k / 100000 = 9 then (σ, decide (k / 10 % 100 = 0) && sIsSt σ (k / 1000 % 100) (k % 10))
  else (σ, false)
theorem sRun_1 {σ : St} {k : Nat} (h : k / 100000 = 1) : sRun σ k = if k % 10 = 0 then (sGive σ (k / 10000 % 10) (k / 1000 % 10) 1 (k / 10 % 100), sGiveOK σ (k / 10000 % 10) (k / 1000 % 10) 1 (k / 10 % 100)) else (σ, false) := by unfold sRun; rw [if_pos h]
theorem sRun_2 {σ : St} {k : Nat} (h : k / 100000 = 2) : sRun σ k = if k % 100 = 0 then (sCall σ (k / 10000 % 10) 1 (k / 100 % 100), (sCallW σ (k / 10000 % 10) 1 (k / 100 % 100)).isSome) else (σ, false) := by unfold sRun; rw [if_neg (by omega), if_pos h]
theorem sRun_3 {σ : St} {k : Nat} (h : k / 100000 = 3) : sRun σ k = if k / 10 % 10000 = 0 then (sPass σ (k % 10), (sPassQ σ (k % 10)).isSome) else (σ, false) := by unfold sRun; rw [if_neg (by omega), if_neg (by omega), if_pos h]
theorem sRun_4 {σ : St} {k : Nat} (h : k / 100000 = 4) : sRun σ k = if k / 10 % 1000 = 0 then (sSit σ (k / 10000 % 10) (k % 10), sSitOK σ (k / 10000 % 10) (k % 10)) else (σ, false) := by unfold sRun; rw [if_neg (by omega), if_neg (by omega), if_neg (by omega), if_pos h]
theorem sRun_5 {σ : St} {k : Nat} (h : k / 100000 = 5) : sRun σ k = if k / 10 % 1000 = 0 then (sSet σ (k / 10000 % 10) (k % 10), sSetOK (k / 10000 % 10) (k % 10)) else (σ, false) := by unfold sRun; rw [if_neg (by omega), if_neg (by omega), if_neg (by omega), if_neg (by omega), if_pos h]
theorem sRun_6 {σ : St} {k : Nat} (h : k / 100000 = 6) : sRun σ k = (σ, decide (k / 10 % 1000 = 0) && sHasN σ (k / 10000 % 10) (k % 10)) := by unfold sRun; rw [if_neg (by omega), if_neg (by omega), if_neg (by omega), if_neg (by omega), if_neg (by omega), if_pos h]
theorem sRun_7 {σ : St} {k : Nat} (h : k / 100000 = 7) : sRun σ k = (σ, decide (k % 10 = 0) && sMeansP σ (k / 10000 % 10) (k / 100 % 100) (k / 10 % 10)) := by unfold sRun; rw [if_neg (by omega), if_neg (by omega), if_neg (by omega), if_neg (by omega), if_neg (by omega), if_neg (by omega), if_pos h]
theorem sRun_8 {σ : St} {k : Nat} (h : k / 100000 = 8) : sRun σ k = (σ, decide (k / 100 % 1000 = 0) && decide (k % 100 ≤ sInState σ 1)) := by unfold sRun; rw [if_neg (by omega), if_neg (by omega), if_neg (by omega), if_neg (by omega), if_neg (by omega), if_neg (by omega), if_neg (by omega), if_pos h]
theorem sRun_9 {σ : St} {k : Nat} (h : k / 100000 = 9) : sRun σ k = (σ, decide (k / 10 % 100 = 0) && sIsSt σ (k / 1000 % 100) (k % 10)) := by unfold sRun; rw [if_neg (by omega), if_neg (by omega), if_neg (by omega), if_neg (by omega), if_neg (by omega), if_neg (by omega), if_neg (by omega), if_neg (by omega), if_pos h]
theorem sRun_d {σ : St} {k : Nat} (h : k / 100000 < 1 ∨ 9 < k / 100000) : sRun σ k = (σ, false) := by unfold sRun; rw [if_neg (by omega), if_neg (by omega), if_neg (by omega), if_neg (by omega), if_neg (by omega), if_neg (by omega), if_neg (by omega), if_neg (by omega), if_neg (by omega)]
theorem eIv.run {σ : St} {T k : Nat} (h : eIv σ T) : eIv (sRun σ k).1 (T + 1) := by
  have h1 := h.mono (Nat.le_succ T)
  unfold sRun
  split
  · split
    · exact h.give.mono (Nat.le_succ T)
    · exact h1
  split
  · split
    · exact h.call
    · exact h1
  split
  · split
    · exact h.pass.mono (Nat.le_succ T)
    · exact h1
  split
  · split
    · exact h.sitting.mono (Nat.le_succ T)
    · exact h1
  split
  · split
    · exact h.setting.mono (Nat.le_succ T)
    · exact h1
  split
  · exact h1
  split
  · exact h1
  split
  · exact h1
  split
  · exact h1
  · exact h1
theorem c_X2_hasN {h : eH} {n q : Nat} {σ : St} (hN : eNm h q σ) (hB : eB σ) {k : Nat} (hk : k < 2 ^ 31) : kX2_has [.ref q, .int (nI k)] h n (.inl (some (.int (bI (decide (k < σ 0 1))))), (· = h), some n) 0 0 := by
  have e : decide (k < σ 0 1) = decide (0 ≤ (nI k).toInt ∧ (nI k).toInt < (σ 0 1 : Int)) := by rw [nI_toInt hk]; exact decide_eq_decide.mpr (by omega)
  rw [e]; exact c_X2_has hN hB
section ONRules
variable {M : eMI} {pc : Nat} {lv : List (Nat × Value)} {st : List Value} {w : eH × Nat × Nat × Nat} {r : eRes} {mc ms : Nat}
theorem ev_icmp_neON {a : Nat} {o : Option Nat} {off : Int} {tgt : Nat} (d : decode M.1 pc = .ok (.if_icmp .ne off, 3)) (ht : (pc : Int) + off = (tgt : Int)) (ha : a < 2 ^ 31) (hb : ∀ k, o = some k → k < 2 ^ 31) (kt : o ≠ some a → eV M tgt lv st w r mc ms) (kf : o = some a → eV M (pc + 3) lv st w r mc ms) : eV M pc lv (.int (nI a) :: .int (oI o) :: st) w r mc ms :=
  ev_icmp_ne d ht (fun q => kt (fun e => q ((oI_eq ha hb).mpr e))) (fun q => kf ((oI_eq ha hb).mp q))
end ONRules
set_option maxHeartbeats 4000000 in
set_option maxRecDepth 20000 in
theorem c_X6_hasNames {h : eH} {n r : Nat} {σ : St} (hR : eRg h r σ) (hO : eOK σ) {p k : Nat} (hp : p < 2 ^ 31) (hk : k < 2 ^ 31) : kX6_hasNames [.ref r, .int (nI p), .int (nI k)] h n (.inl (some (.int (bI (sHasN σ p k)))), (· = h), some n) 0 0 := by
  refine eM.of RX6 "hasNames" [(0, .ref r), (1, .int (nI p)), (2, .int (nI k))] pn_X6 rfl rfl (Nat.le_of_ble_eq_true rfl) rfl ?_
  have hB : eB σ := hO.1
  obtain ⟨r0, hP, hN, hS⟩ := id hR
  refine ev_aload_n dX6_hasNames_0 rfl rfl ?_
  refine ev_getfield dX6_hasNames_1 fl_X6_55 (by first | assumption | omega | exact ePp.ob (by assumption) | exact eNm.ob (by assumption) | exact eRg.ob (by assumption) | exact eTx.ob (by assumption) | exact ePa.ob (by assumption)) rfl ?_
  refine ev_iload_n dX6_hasNames_4 rfl rfl ?_
  refine ev_callVi dX6_hasNames_5 (c_X4_has hP hB p hp) rfl lk_X6_59 (by first | assumption | omega | exact ePp.ob (by assumption) | exact eNm.ob (by assumption) | exact eRg.ob (by assumption) | exact eTx.ob (by assumption) | exact ePa.ob (by assumption)) ⟨Nat.le_of_ble_eq_true rfl, Nat.le_of_ble_eq_true rfl⟩ rfl (Nat.le_of_ble_eq_true rfl) ⟨Nat.le_of_ble_eq_true rfl, Nat.le_of_ble_eq_true rfl⟩ (eRo ?_)
  first | ((with_reducible show eV _ _ _ (Value.int (bI _) :: _) _ _ _ _); refine ev_if_eqB (tgt := 27) dX6_hasNames_8 (by decide) (fun c_8 => ?_) (fun c_8 => ?_)) | ((with_reducible show eV _ _ _ (Value.int (nI _) :: _) _ _ _ _); refine ev_if_eqN (tgt := 27) dX6_hasNames_8 (by decide) (by first | omega | exact Nat.lt_of_le_of_lt (hO.lives _) (by decide)) (fun c_8 => ?_) (fun c_8 => ?_)) | (refine ev_if_eqZ (tgt := 27) dX6_hasNames_8 (by decide) (fun c_8 => ?_) (fun c_8 => ?_))
  · refine ev_iconst (v := nI 0) dX6_hasNames_27 rfl ?_
    exact ev_iret dX6_hasNames_28 rfl (by first | rfl | exact bI_n _) (by first | exact bR0 (by unfold sHasN; rw [c_8]; rfl) | exact bR0 (by unfold sHasN; rw [decide_eq_false (show ¬ k ≤ sLives σ p by omega), Bool.and_false]) | exact bR1 (by unfold sHasN; rw [c_8, decide_eq_true (show k ≤ sLives σ p by omega)]; rfl)) (by rfl) (fun _ e => Option.some.inj e) (Nat.le_of_ble_eq_true rfl) (Nat.le_of_ble_eq_true rfl)
  · refine ev_aload_n dX6_hasNames_11 rfl rfl ?_
    refine ev_getfield dX6_hasNames_12 fl_X6_43 (by first | assumption | omega | exact ePp.ob (by assumption) | exact eNm.ob (by assumption) | exact eRg.ob (by assumption) | exact eTx.ob (by assumption) | exact ePa.ob (by assumption)) rfl ?_
    refine ev_iload_n dX6_hasNames_15 rfl rfl ?_
    refine ev_callVi dX6_hasNames_16 (c_X2_aliveOf hN hB hp) rfl lk_X6_65 (by first | assumption | omega | exact ePp.ob (by assumption) | exact eNm.ob (by assumption) | exact eRg.ob (by assumption) | exact eTx.ob (by assumption) | exact ePa.ob (by assumption)) ⟨Nat.le_of_ble_eq_true rfl, Nat.le_of_ble_eq_true rfl⟩ rfl (Nat.le_of_ble_eq_true rfl) ⟨Nat.le_of_ble_eq_true rfl, Nat.le_of_ble_eq_true rfl⟩ (eRo ?_)
    refine ev_iload_n dX6_hasNames_19 rfl rfl ?_
    first | ((with_reducible show eV _ _ _ (Value.int (nI _) :: Value.int (nI _) :: _) _ _ _ _); refine ev_icmp_ltN (tgt := 27) dX6_hasNames_20 (by decide) (by first | omega | exact Nat.lt_of_le_of_lt (hO.lives _) (by decide)) (by first | omega | exact Nat.lt_of_le_of_lt (hO.lives _) (by decide)) (fun c_20 => ?_) (fun c_20 => ?_)) | ((with_reducible show eV _ _ _ (Value.int (nI _) :: _) _ _ _ _); refine ev_icmp_ltZN (tgt := 27) dX6_hasNames_20 (by decide) (by first | omega | exact Nat.lt_of_le_of_lt (hO.lives _) (by decide)) (fun c_20 => ?_) (fun c_20 => ?_)) | ((with_reducible show eV _ _ _ (_ :: Value.int (nI _) :: _) _ _ _ _); refine ev_icmp_ltNZ (tgt := 27) dX6_hasNames_20 (by decide) (by first | omega | exact Nat.lt_of_le_of_lt (hO.lives _) (by decide)) (fun c_20 => ?_) (fun c_20 => ?_)) | (refine ev_icmp_ltZZ (tgt := 27) dX6_hasNames_20 (by decide) (fun c_20 => ?_) (fun c_20 => ?_))
    · refine ev_iconst (v := nI 0) dX6_hasNames_27 rfl ?_
      exact ev_iret dX6_hasNames_28 rfl (by first | rfl | exact bI_n _) (by first | exact bR0 (by unfold sHasN; rw [c_8]; rfl) | exact bR0 (by unfold sHasN; rw [decide_eq_false (show ¬ k ≤ sLives σ p by omega), Bool.and_false]) | exact bR1 (by unfold sHasN; rw [c_8, decide_eq_true (show k ≤ sLives σ p by omega)]; rfl)) (by rfl) (fun _ e => Option.some.inj e) (Nat.le_of_ble_eq_true rfl) (Nat.le_of_ble_eq_true rfl)
    · refine ev_iconst (v := nI 1) dX6_hasNames_23 rfl ?_
      refine ev_goto (tgt := 28) dX6_hasNames_24 (by decide) ?_
      exact ev_iret dX6_hasNames_28 rfl (by first | rfl | exact bI_n _) (by first | exact bR0 (by unfold sHasN; rw [c_8]; rfl) | exact bR0 (by unfold sHasN; rw [decide_eq_false (show ¬ k ≤ sLives σ p by omega), Bool.and_false]) | exact bR1 (by unfold sHasN; rw [c_8, decide_eq_true (show k ≤ sLives σ p by omega)]; rfl)) (by rfl) (fun _ e => Option.some.inj e) (Nat.le_of_ble_eq_true rfl) (Nat.le_of_ble_eq_true rfl)
set_option maxHeartbeats 4000000 in
set_option maxRecDepth 20000 in
theorem c_X6_means {h : eH} {n r : Nat} {σ : St} (hR : eRg h r σ) (hO : eOK σ) {b c p : Nat} (hb : b < 2 ^ 31) (hc : c < 2 ^ 31) (hp : p < 2 ^ 31) : kX6_means [.ref r, .int (nI b), .int (nI c), .int (nI p)] h n (.inl (some (.int (bI (sMeansP σ b c p)))), (· = h), some n) 0 0 := by
  refine eM.of RX6 "means" [(0, .ref r), (1, .int (nI b)), (2, .int (nI c)), (3, .int (nI p))] pn_X6 rfl rfl (Nat.le_of_ble_eq_true rfl) rfl ?_
  have hB : eB σ := hO.1
  obtain ⟨r0, hP, hN, hS⟩ := id hR
  refine ev_iload_n dX6_means_0 rfl rfl ?_
  refine ev_callNi dX6_means_1 (c_X10_isBench hb) lk_X6_68 ws_yX10_isBench ⟨Nat.le_of_ble_eq_true rfl, Nat.le_of_ble_eq_true rfl⟩ rfl (Nat.le_of_ble_eq_true rfl) ⟨Nat.le_of_ble_eq_true rfl, Nat.le_of_ble_eq_true rfl⟩ (eRo ?_)
  first | ((with_reducible show eV _ _ _ (Value.int (bI _) :: _) _ _ _ _); refine ev_if_eqB (tgt := 41) dX6_means_4 (by decide) (fun c_4 => ?_) (fun c_4 => ?_)) | ((with_reducible show eV _ _ _ (Value.int (nI _) :: _) _ _ _ _); refine ev_if_eqN (tgt := 41) dX6_means_4 (by decide) (by first | exact hB _ _ | omega) (fun c_4 => ?_) (fun c_4 => ?_)) | (refine ev_if_eqZ (tgt := 41) dX6_means_4 (by decide) (fun c_4 => ?_) (fun c_4 => ?_))
  · refine ev_iconst (v := nI 0) dX6_means_41 rfl ?_
    exact ev_iret dX6_means_42 rfl (by first | rfl | exact bI_n _) (by first | exact bR0 (by unfold sMeansP; rw [c_4]; rfl) | exact bR0 (by unfold sMeansP; rw [c_12, Bool.false_and, Bool.and_false]) | exact bR0 (by unfold sMeansP; rw [c_23, Bool.false_and, Bool.and_false, Bool.and_false]) | exact bR0 (by unfold sMeansP; rw [decide_eq_false (show ¬ some p = sMeant σ b 1 c from fun z => c_34 z.symm), Bool.and_false, Bool.and_false, Bool.and_false]) | exact bR1 (by unfold sMeansP; rw [c_4, c_12, c_23, decide_eq_true c_34.symm]; rfl)) (by rfl) (fun _ e => Option.some.inj e) (Nat.le_of_ble_eq_true rfl) (Nat.le_of_ble_eq_true rfl)
  · refine ev_iconst (v := nI 1) dX6_means_7 rfl ?_
    refine ev_iload_n dX6_means_8 rfl rfl ?_
    refine ev_callSi dX6_means_9 (c_X0_isCode (by decide) hc) lk_X6_71 ⟨Nat.le_of_ble_eq_true rfl, Nat.le_of_ble_eq_true rfl⟩ rfl (Nat.le_of_ble_eq_true rfl) ⟨Nat.le_of_ble_eq_true rfl, Nat.le_of_ble_eq_true rfl⟩ (eRo ?_)
    first | ((with_reducible show eV _ _ _ (Value.int (bI _) :: _) _ _ _ _); refine ev_if_eqB (tgt := 41) dX6_means_12 (by decide) (fun c_12 => ?_) (fun c_12 => ?_)) | ((with_reducible show eV _ _ _ (Value.int (nI _) :: _) _ _ _ _); refine ev_if_eqN (tgt := 41) dX6_means_12 (by decide) (by first | exact hB _ _ | omega) (fun c_12 => ?_) (fun c_12 => ?_)) | (refine ev_if_eqZ (tgt := 41) dX6_means_12 (by decide) (fun c_12 => ?_) (fun c_12 => ?_))
    · refine ev_iconst (v := nI 0) dX6_means_41 rfl ?_
      exact ev_iret dX6_means_42 rfl (by first | rfl | exact bI_n _) (by first | exact bR0 (by unfold sMeansP; rw [c_4]; rfl) | exact bR0 (by unfold sMeansP; rw [c_12, Bool.false_and, Bool.and_false]) | exact bR0 (by unfold sMeansP; rw [c_23, Bool.false_and, Bool.and_false, Bool.and_false]) | exact bR0 (by unfold sMeansP; rw [decide_eq_false (show ¬ some p = sMeant σ b 1 c from fun z => c_34 z.symm), Bool.and_false, Bool.and_false, Bool.and_false]) | exact bR1 (by unfold sMeansP; rw [c_4, c_12, c_23, decide_eq_true c_34.symm]; rfl)) (by rfl) (fun _ e => Option.some.inj e) (Nat.le_of_ble_eq_true rfl) (Nat.le_of_ble_eq_true rfl)
    · refine ev_aload_n dX6_means_15 rfl rfl ?_
      refine ev_getfield dX6_means_16 fl_X6_55 (by first | assumption | omega | exact ePp.ob (by assumption) | exact eNm.ob (by assumption) | exact eRg.ob (by assumption) | exact eTx.ob (by assumption) | exact ePa.ob (by assumption)) rfl ?_
      refine ev_iload_n dX6_means_19 rfl rfl ?_
      refine ev_callVi dX6_means_20 (c_X4_has hP hB p hp) rfl lk_X6_59 (by first | assumption | omega | exact ePp.ob (by assumption) | exact eNm.ob (by assumption) | exact eRg.ob (by assumption) | exact eTx.ob (by assumption) | exact ePa.ob (by assumption)) ⟨Nat.le_of_ble_eq_true rfl, Nat.le_of_ble_eq_true rfl⟩ rfl (Nat.le_of_ble_eq_true rfl) ⟨Nat.le_of_ble_eq_true rfl, Nat.le_of_ble_eq_true rfl⟩ (eRo ?_)
      first | ((with_reducible show eV _ _ _ (Value.int (bI _) :: _) _ _ _ _); refine ev_if_eqB (tgt := 41) dX6_means_23 (by decide) (fun c_23 => ?_) (fun c_23 => ?_)) | ((with_reducible show eV _ _ _ (Value.int (nI _) :: _) _ _ _ _); refine ev_if_eqN (tgt := 41) dX6_means_23 (by decide) (by first | exact hB _ _ | omega) (fun c_23 => ?_) (fun c_23 => ?_)) | (refine ev_if_eqZ (tgt := 41) dX6_means_23 (by decide) (fun c_23 => ?_) (fun c_23 => ?_))
      · refine ev_iconst (v := nI 0) dX6_means_41 rfl ?_
        exact ev_iret dX6_means_42 rfl (by first | rfl | exact bI_n _) (by first | exact bR0 (by unfold sMeansP; rw [c_4]; rfl) | exact bR0 (by unfold sMeansP; rw [c_12, Bool.false_and, Bool.and_false]) | exact bR0 (by unfold sMeansP; rw [c_23, Bool.false_and, Bool.and_false, Bool.and_false]) | exact bR0 (by unfold sMeansP; rw [decide_eq_false (show ¬ some p = sMeant σ b 1 c from fun z => c_34 z.symm), Bool.and_false, Bool.and_false, Bool.and_false]) | exact bR1 (by unfold sMeansP; rw [c_4, c_12, c_23, decide_eq_true c_34.symm]; rfl)) (by rfl) (fun _ e => Option.some.inj e) (Nat.le_of_ble_eq_true rfl) (Nat.le_of_ble_eq_true rfl)
      · refine ev_aload_n dX6_means_26 rfl rfl ?_
        refine ev_iload_n dX6_means_27 rfl rfl ?_
        refine ev_iconst (v := nI 1) dX6_means_28 rfl ?_
        refine ev_iload_n dX6_means_29 rfl rfl ?_
        refine ev_callVi dX6_means_30 (c_X5_meantByPeople hR hO hb (by decide) hc) rfl lk_X6_76 (by first | assumption | omega | exact ePp.ob (by assumption) | exact eNm.ob (by assumption) | exact eRg.ob (by assumption) | exact eTx.ob (by assumption) | exact ePa.ob (by assumption)) ⟨Nat.le_of_ble_eq_true rfl, Nat.le_of_ble_eq_true rfl⟩ rfl (Nat.le_of_ble_eq_true rfl) ⟨Nat.le_of_ble_eq_true rfl, Nat.le_of_ble_eq_true rfl⟩ (eRo ?_)
        refine ev_iload_n dX6_means_33 rfl rfl ?_
        first | ((with_reducible show eV _ _ _ (Value.int (nI _) :: Value.int (nI _) :: _) _ _ _ _); refine ev_icmp_neN (tgt := 41) dX6_means_34 (by decide) (by first | exact hB _ _ | omega) (by first | exact hB _ _ | omega) (fun c_34 => ?_) (fun c_34 => ?_)) | ((with_reducible show eV _ _ _ (Value.int (-1) :: Value.int (oI _) :: _) _ _ _ _); refine ev_icmp_neO (tgt := 41) dX6_means_34 (by decide) (by first | assumption | (intro k9 h9; have := sMeant_lt h9; have := hO.2.1; omega)) (fun c_34 => ?_) (fun c_34 => ?_)) | ((with_reducible show eV _ _ _ (Value.int (nI _) :: Value.int (oI _) :: _) _ _ _ _); refine ev_icmp_neON (tgt := 41) dX6_means_34 (by decide) (by first | exact hB _ _ | omega) (by first | assumption | (intro k9 h9; have := sMeant_lt h9; have := hO.2.1; omega)) (fun c_34 => ?_) (fun c_34 => ?_)) | ((with_reducible show eV _ _ _ (Value.int (nI _) :: _) _ _ _ _); refine ev_icmp_neZN (tgt := 41) dX6_means_34 (by decide) (by first | exact hB _ _ | omega) (fun c_34 => ?_) (fun c_34 => ?_)) | ((with_reducible show eV _ _ _ (_ :: Value.int (nI _) :: _) _ _ _ _); refine ev_icmp_neNZ (tgt := 41) dX6_means_34 (by decide) (by first | exact hB _ _ | omega) (fun c_34 => ?_) (fun c_34 => ?_)) | (refine ev_icmp_neZZ (tgt := 41) dX6_means_34 (by decide) (fun c_34 => ?_) (fun c_34 => ?_))
        · refine ev_iconst (v := nI 0) dX6_means_41 rfl ?_
          exact ev_iret dX6_means_42 rfl (by first | rfl | exact bI_n _) (by first | exact bR0 (by unfold sMeansP; rw [c_4]; rfl) | exact bR0 (by unfold sMeansP; rw [c_12, Bool.false_and, Bool.and_false]) | exact bR0 (by unfold sMeansP; rw [c_23, Bool.false_and, Bool.and_false, Bool.and_false]) | exact bR0 (by unfold sMeansP; rw [decide_eq_false (show ¬ some p = sMeant σ b 1 c from fun z => c_34 z.symm), Bool.and_false, Bool.and_false, Bool.and_false]) | exact bR1 (by unfold sMeansP; rw [c_4, c_12, c_23, decide_eq_true c_34.symm]; rfl)) (by rfl) (fun _ e => Option.some.inj e) (Nat.le_of_ble_eq_true rfl) (Nat.le_of_ble_eq_true rfl)
        · refine ev_iconst (v := nI 1) dX6_means_37 rfl ?_
          refine ev_goto (tgt := 42) dX6_means_38 (by decide) ?_
          exact ev_iret dX6_means_42 rfl (by first | rfl | exact bI_n _) (by first | exact bR0 (by unfold sMeansP; rw [c_4]; rfl) | exact bR0 (by unfold sMeansP; rw [c_12, Bool.false_and, Bool.and_false]) | exact bR0 (by unfold sMeansP; rw [c_23, Bool.false_and, Bool.and_false, Bool.and_false]) | exact bR0 (by unfold sMeansP; rw [decide_eq_false (show ¬ some p = sMeant σ b 1 c from fun z => c_34 z.symm), Bool.and_false, Bool.and_false, Bool.and_false]) | exact bR1 (by unfold sMeansP; rw [c_4, c_12, c_23, decide_eq_true c_34.symm]; rfl)) (by rfl) (fun _ e => Option.some.inj e) (Nat.le_of_ble_eq_true rfl) (Nat.le_of_ble_eq_true rfl)
set_option maxHeartbeats 4000000 in
set_option maxRecDepth 20000 in
theorem c_X6_isInState {h : eH} {n r : Nat} {σ : St} (hR : eRg h r σ) (hO : eOK σ) {k s : Nat} (hk : k < 2 ^ 31) (hs : s < 2 ^ 31) : kX6_isInState [.ref r, .int (nI k), .int (nI s)] h n (.inl (some (.int (bI (sIsSt σ k s)))), (· = h), some n) 0 0 := by
  refine eM.of RX6 "isInState" [(0, .ref r), (1, .int (nI k)), (2, .int (nI s))] pn_X6 rfl rfl (Nat.le_of_ble_eq_true rfl) rfl ?_
  have hB : eB σ := hO.1
  obtain ⟨r0, hP, hN, hS⟩ := id hR
  obtain ⟨n0, n1, n2, n3, n4, n5, n6, n7, n8, n9⟩ := id hN
  refine ev_aload_n dX6_isInState_0 rfl rfl ?_
  refine ev_getfield dX6_isInState_1 fl_X6_43 (by first | assumption | omega | exact ePp.ob (by assumption) | exact eNm.ob (by assumption) | exact eRg.ob (by assumption) | exact eTx.ob (by assumption) | exact ePa.ob (by assumption)) rfl ?_
  refine ev_iload_n dX6_isInState_4 rfl rfl ?_
  refine ev_callVi dX6_isInState_5 (c_X2_hasN hN hB hk) rfl lk_X6_79 (by first | assumption | omega | exact ePp.ob (by assumption) | exact eNm.ob (by assumption) | exact eRg.ob (by assumption) | exact eTx.ob (by assumption) | exact ePa.ob (by assumption)) ⟨Nat.le_of_ble_eq_true rfl, Nat.le_of_ble_eq_true rfl⟩ rfl (Nat.le_of_ble_eq_true rfl) ⟨Nat.le_of_ble_eq_true rfl, Nat.le_of_ble_eq_true rfl⟩ (eRo ?_)
  first | ((with_reducible show eV _ _ _ (Value.int (bI _) :: _) _ _ _ _); refine ev_if_eqB (tgt := 28) dX6_isInState_8 (by decide) (fun c_8 => ?_) (fun c_8 => ?_)) | ((with_reducible show eV _ _ _ (Value.int (nI _) :: _) _ _ _ _); refine ev_if_eqN (tgt := 28) dX6_isInState_8 (by decide) (by first | exact hB _ _ | omega) (fun c_8 => ?_) (fun c_8 => ?_)) | (refine ev_if_eqZ (tgt := 28) dX6_isInState_8 (by decide) (fun c_8 => ?_) (fun c_8 => ?_))
  · refine ev_iconst (v := nI 0) dX6_isInState_28 rfl ?_
    exact ev_iret dX6_isInState_29 rfl (by first | rfl | exact bI_n _) (by first | exact bR0 (by unfold sIsSt; rw [c_8]; rfl) | exact bR0 (by unfold sIsSt; rw [decide_eq_false c_21, Bool.and_false]) | exact bR1 (by unfold sIsSt; rw [c_8, decide_eq_true c_21]; rfl)) (by rfl) (fun _ e => Option.some.inj e) (Nat.le_of_ble_eq_true rfl) (Nat.le_of_ble_eq_true rfl)
  · have hk2 := of_decide_eq_true c_8
    refine ev_aload_n dX6_isInState_11 rfl rfl ?_
    refine ev_getfield dX6_isInState_12 fl_X6_43 (by first | assumption | omega | exact ePp.ob (by assumption) | exact eNm.ob (by assumption) | exact eRg.ob (by assumption) | exact eTx.ob (by assumption) | exact ePa.ob (by assumption)) rfl ?_
    refine ev_getfield dX6_isInState_15 fl_X6_80 (by first | assumption | omega | exact ePp.ob (by assumption) | exact eNm.ob (by assumption) | exact eRg.ob (by assumption) | exact eTx.ob (by assumption) | exact ePa.ob (by assumption)) rfl ?_
    refine ev_iload_n dX6_isInState_18 rfl rfl ?_
    refine ev_ialoadA dX6_isInState_19 (by first | assumption | omega | exact ePp.ob (by assumption) | exact eNm.ob (by assumption) | exact eRg.ob (by assumption) | exact eTx.ob (by assumption) | exact ePa.ob (by assumption)) (by first | assumption | omega | exact ePp.ob (by assumption) | exact eNm.ob (by assumption) | exact eRg.ob (by assumption) | exact eTx.ob (by assumption) | exact ePa.ob (by assumption)) ?_
    refine ev_iload_n dX6_isInState_20 rfl rfl ?_
    first | ((with_reducible show eV _ _ _ (Value.int (nI _) :: Value.int (nI _) :: _) _ _ _ _); refine ev_icmp_neN (tgt := 28) dX6_isInState_21 (by decide) (by first | exact hB _ _ | omega) (by first | exact hB _ _ | omega) (fun c_21 => ?_) (fun c_21 => ?_)) | ((with_reducible show eV _ _ _ (Value.int (-1) :: Value.int (oI _) :: _) _ _ _ _); refine ev_icmp_neO (tgt := 28) dX6_isInState_21 (by decide) (by first | assumption | (intro k9 h9; exact absurd h9 (by simp)) | (intro k9 h9; have := (fst_lt h9).1; omega) | (intro k9 h9; cases h9; omega)) (fun c_21 => ?_) (fun c_21 => ?_)) | ((with_reducible show eV _ _ _ (Value.int (nI _) :: Value.int (oI _) :: _) _ _ _ _); refine ev_icmp_neON (tgt := 28) dX6_isInState_21 (by decide) (by first | exact hB _ _ | omega) (by first | assumption | (intro k9 h9; exact absurd h9 (by simp)) | (intro k9 h9; have := (fst_lt h9).1; omega) | (intro k9 h9; cases h9; omega)) (fun c_21 => ?_) (fun c_21 => ?_)) | ((with_reducible show eV _ _ _ (Value.int (nI _) :: _) _ _ _ _); refine ev_icmp_neZN (tgt := 28) dX6_isInState_21 (by decide) (by first | exact hB _ _ | omega) (fun c_21 => ?_) (fun c_21 => ?_)) | ((with_reducible show eV _ _ _ (_ :: Value.int (nI _) :: _) _ _ _ _); refine ev_icmp_neNZ (tgt := 28) dX6_isInState_21 (by decide) (by first | exact hB _ _ | omega) (fun c_21 => ?_) (fun c_21 => ?_)) | (refine ev_icmp_neZZ (tgt := 28) dX6_isInState_21 (by decide) (fun c_21 => ?_) (fun c_21 => ?_))
    · refine ev_iconst (v := nI 0) dX6_isInState_28 rfl ?_
      exact ev_iret dX6_isInState_29 rfl (by first | rfl | exact bI_n _) (by first | exact bR0 (by unfold sIsSt; rw [c_8]; rfl) | exact bR0 (by unfold sIsSt; rw [decide_eq_false c_21, Bool.and_false]) | exact bR1 (by unfold sIsSt; rw [c_8, decide_eq_true c_21]; rfl)) (by rfl) (fun _ e => Option.some.inj e) (Nat.le_of_ble_eq_true rfl) (Nat.le_of_ble_eq_true rfl)
    · refine ev_iconst (v := nI 1) dX6_isInState_24 rfl ?_
      refine ev_goto (tgt := 29) dX6_isInState_25 (by decide) ?_
      exact ev_iret dX6_isInState_29 rfl (by first | rfl | exact bI_n _) (by first | exact bR0 (by unfold sIsSt; rw [c_8]; rfl) | exact bR0 (by unfold sIsSt; rw [decide_eq_false c_21, Bool.and_false]) | exact bR1 (by unfold sIsSt; rw [c_8, decide_eq_true c_21]; rfl)) (by rfl) (fun _ e => Option.some.inj e) (Nat.le_of_ble_eq_true rfl) (Nat.le_of_ble_eq_true rfl)

