theorem sYears_01 {σ : St} {T : Nat} (h : eIv σ T) {n : Nat} (hn : σ 0 2 + n ≤ 999) : sYears σ n 0 1 ≤ 40 := (h.years hn).1.1.2.1
theorem sYearsN_lt {σ : St} {T : Nat} (h : eIv σ T) : ∀ {n : Nat}, σ 0 2 + n ≤ 999 → sYearsN σ n ≤ 40 * n
  | 0, _ => Nat.le_refl 0
  | n + 1, hn => by
    have h1 := sYearsN_lt h (n := n) (by omega)
    have h2 := sEndN_lt (sOlder (sYears σ n)) (sYears σ n 0 1)
    have h3 := sYears_01 h (n := n) (by omega)
    rw [sYearsN]; omega
def sPassQ (σ : St) (n : Nat) : Option Nat := if sYearsOK σ n = true then some (sYearsN σ n) else none
theorem sYearsOK_a {σ : St} {n : Nat} (h : decide (1 ≤ n ∧ n < 10) = false) : sYearsOK σ n = false := decide_eq_false (fun z => of_decide_eq_false h ⟨z.1, by omega⟩)
theorem sYearsOK_b {σ : St} {n : Nat} (h : 999 < σ 0 2 + n) : sYearsOK σ n = false := decide_eq_false (fun z => by omega)
theorem sYearsOK_y {σ : St} {n : Nat} (h : decide (1 ≤ n ∧ n < 10) = true) (h2 : σ 0 2 + n ≤ 999) : sYearsOK σ n = true := by
  have := of_decide_eq_true h
  exact decide_eq_true ⟨this.1, by omega, h2⟩
theorem sPass_n {σ : St} {n : Nat} (h : sYearsOK σ n = false) : sPass σ n = σ ∧ sPassQ σ n = none := by unfold sPass sPassQ; rw [if_neg (by rw [h]; decide), if_neg (by rw [h]; decide)]; exact ⟨rfl, rfl⟩
theorem sPass_y {σ : St} {n : Nat} (h : sYearsOK σ n = true) : sPass σ n = sYears σ n ∧ sPassQ σ n = some (sYearsN σ n) := by unfold sPass sPassQ; rw [if_pos h, if_pos h]; exact ⟨rfl, rfl⟩
theorem sSit_n {σ : St} {p b : Nat} (h : sSitOK σ p b = false) : sSitOK σ p b = false ∧ sSit σ p b = σ := ⟨h, if_neg (by rw [h]; decide)⟩
theorem sSit_a {σ : St} {p b : Nat} (h : decide (p < σ 0 0) = false) : sSitOK σ p b = false ∧ sSit σ p b = σ := sSit_n (by have := of_decide_eq_false h; simp [sSitOK]; intro z; omega)
theorem sSit_b {σ : St} {p b : Nat} (h : decide (b < 4) = false) : sSitOK σ p b = false ∧ sSit σ p b = σ := sSit_n (by have := of_decide_eq_false h; simp [sSitOK]; intro z z2; omega)
theorem sSit_c {σ : St} {p b : Nat} (h : sKept σ p b = true) : sSitOK σ p b = false ∧ sSit σ p b = σ := sSit_n (by simp [sSitOK, h])
theorem sSit_y {σ : St} {p b : Nat} (h : decide (p < σ 0 0) = true) (h2 : decide (b < 4) = true) (h3 : sKept σ p b = false) : sSitOK σ p b = true ∧ sSit σ p b = su σ 3 p b := by
  have h4 : sSitOK σ p b = true := by have := of_decide_eq_true h; have := of_decide_eq_true h2; simp [sSitOK, h3]; omega
  exact ⟨h4, if_pos h4⟩
theorem sWhy_5 (σ : St) (g p m c : Nat) : sWhy σ g p m c ≤ 5 := by
  unfold sWhy
  have : sWhyAny σ g p ≤ 3 := by
    unfold sWhyAny
    split
    · omega
    split
    · omega
    split <;> omega
  split
  · omega
  split
  · omega
  split <;> omega
theorem sGive_n {σ : St} {g p m c : Nat} (h : sGiveOK σ g p m c = false) : sGiveOK σ g p m c = false ∧ sGive σ g p m c = σ := ⟨h, if_neg (by rw [h]; decide)⟩
theorem sGive_a {σ : St} {g p m c : Nat} (h : decide (g < σ 0 0) = false) : sGiveOK σ g p m c = false ∧ sGive σ g p m c = σ := sGive_n (by have := of_decide_eq_false h; simp [sGiveOK, this])
theorem sGive_b {σ : St} {g p m c : Nat} (h : decide (p < σ 0 0) = false) : sGiveOK σ g p m c = false ∧ sGive σ g p m c = σ := sGive_n (by have := of_decide_eq_false h; simp [sGiveOK, this])
theorem sGive_c {σ : St} {g p m c : Nat} (h : sCode m c = false) : sGiveOK σ g p m c = false ∧ sGive σ g p m c = σ := sGive_n (by simp [sGiveOK, h])
theorem sGive_d {σ : St} {g p m c : Nat} (h : sWhy σ g p m c ≠ 0) : sGiveOK σ g p m c = false ∧ sGive σ g p m c = σ := sGive_n (by simp [sGiveOK, h])
theorem sGive_y {σ : St} {g p m c : Nat} (h : decide (g < σ 0 0) = true) (h2 : decide (p < σ 0 0) = true) (h3 : sCode m c = true) (h4 : sWhy σ g p m c = 0) : sGiveOK σ g p m c = true ∧ sGive σ g p m c = sAddN σ g p m c (σ 0 2) := by
  have h5 : sGiveOK σ g p m c = true := by have := of_decide_eq_true h; have := of_decide_eq_true h2; simp [sGiveOK, h3, h4]; omega
  exact ⟨h5, if_pos h5⟩
set_option maxHeartbeats 4000000 in
set_option maxRecDepth 20000 in
theorem c_X5_passYears {h : eH} {n r T : Nat} {σ : St} (hR : eRg h r σ) (hI : eIv σ T) (hT : T < 2 ^ 30) {y : Nat} (hy : y < 2 ^ 30) : kX5_passYears [.ref r, .int (nI y)] h n (.inl (some (.int (oI (sPassQ σ y)))), (fun g => eRg g r (sPass σ y) ∧ eFr h g r (r + 17)), some n) 0 0 := by
  refine eM.of RX5 "passYears" [(0, .ref r), (1, .int (nI y))] pn_X5 rfl rfl (Nat.le_of_ble_eq_true rfl) rfl ?_
  have hO := hI.ok hT
  have hB : eB σ := hO.1
  have hyr := hI.1.2.2
  obtain ⟨r0, hP, hN, hS⟩ := id hR
  have FR0 : eFr h h r (r + 17) := eFr.rf
  refine ev_iload_n dX5_passYears_0 rfl rfl ?_
  refine ev_callNi dX5_passYears_1 (c_X10_isYearsAtOnce (Nat.lt_trans hy (by decide))) lk_X5_137 ws_yX10_isYearsAtOnce ⟨Nat.le_of_ble_eq_true rfl, Nat.le_of_ble_eq_true rfl⟩ rfl (Nat.le_of_ble_eq_true rfl) ⟨Nat.le_of_ble_eq_true rfl, Nat.le_of_ble_eq_true rfl⟩ (eRo ?_)
  first | ((with_reducible show eV _ _ _ (Value.int (bI _) :: _) _ _ _ _); refine ev_if_eqB (tgt := 19) dX5_passYears_4 (by decide) (fun c_4 => ?_) (fun c_4 => ?_)) | ((with_reducible show eV _ _ _ (Value.int (nI _) :: _) _ _ _ _); refine ev_if_eqN (tgt := 19) dX5_passYears_4 (by decide) (by first | exact hB _ _ | omega) (fun c_4 => ?_) (fun c_4 => ?_)) | (refine ev_if_eqZ (tgt := 19) dX5_passYears_4 (by decide) (fun c_4 => ?_) (fun c_4 => ?_))
  · refine ev_iconst (v := -1) dX5_passYears_19 (by decide) ?_
    exact ev_iret dX5_passYears_20 rfl rfl (by first | exact oRn (sPass_n (sYearsOK_a c_4)).2 | exact oRn (sPass_n (sYearsOK_b c_16)).2) (by first | exact ⟨by rw [(sPass_n (sYearsOK_a c_4)).1]; exact hR, FR0⟩ | exact ⟨by rw [(sPass_n (sYearsOK_b c_16)).1]; exact hR, FR0⟩) (fun _ e => Option.some.inj e) (Nat.le_of_ble_eq_true rfl) (Nat.le_of_ble_eq_true rfl)
  · refine ev_aload_n dX5_passYears_7 rfl rfl ?_
    refine ev_getfield dX5_passYears_8 fl_X5_29 (by first | assumption | omega | exact ePp.ob (by assumption) | exact eNm.ob (by assumption) | exact eRg.ob (by assumption)) rfl ?_
    refine ev_iload_n dX5_passYears_11 rfl rfl ?_
    first | refine ev_iaddN dX5_passYears_12 ?_ | refine ev_iadd dX5_passYears_12 ?_
    refine ev_sipush (v := nI 999) dX5_passYears_13 rfl ?_
    first | ((with_reducible show eV _ _ _ (Value.int (nI _) :: Value.int (nI _) :: _) _ _ _ _); refine ev_icmp_leN (tgt := 21) dX5_passYears_16 (by decide) (by first | exact hB _ _ | omega) (by first | exact hB _ _ | omega) (fun c_16 => ?_) (fun c_16 => ?_)) | ((with_reducible show eV _ _ _ (Value.int (nI _) :: _) _ _ _ _); refine ev_icmp_leZN (tgt := 21) dX5_passYears_16 (by decide) (by first | exact hB _ _ | omega) (fun c_16 => ?_) (fun c_16 => ?_)) | ((with_reducible show eV _ _ _ (_ :: Value.int (nI _) :: _) _ _ _ _); refine ev_icmp_leNZ (tgt := 21) dX5_passYears_16 (by decide) (by first | exact hB _ _ | omega) (fun c_16 => ?_) (fun c_16 => ?_)) | (refine ev_icmp_leZZ (tgt := 21) dX5_passYears_16 (by decide) (fun c_16 => ?_) (fun c_16 => ?_))
    · have hok := sYearsOK_y c_4 c_16
      have hok2 := of_decide_eq_true c_4
      refine ev_iconst (v := nI 0) dX5_passYears_21 rfl ?_
      refine ev_istore_n dX5_passYears_22 rfl (Nat.le_of_ble_eq_true rfl) ?_
      refine ev_iconst (v := nI 0) dX5_passYears_23 rfl ?_
      refine ev_istore_n dX5_passYears_24 rfl (Nat.le_of_ble_eq_true rfl) ?_
      have H_25 : ∀ (d_25 : Nat) (i e : Nat) (g : eH), d_25 = y - i → (i ≤ y) → (e = sYearsN σ i) → (eRg g r (sYears σ i)) → (eFr h g r (r + 17)) → eV mX5_passYears 25 [(0, .ref r), (1, .int (nI y)), (2, .int (nI e)), (3, .int (nI i))] [] (g, n, 0, 0) (.inl (some (.int (oI (sPassQ σ y)))), (fun g => eRg g r (sPass σ y) ∧ eFr h g r (r + 17)), some n) 0 0 := by
        intro d_25
        induction d_25 using Nat.strongRecOn with
        | _ d_25 ih_25 =>
        intro i e g hd_25 hi he hg FR
        clear r0 hP hN hS
        have hE := hI.years (n := i) (by omega)
        have heb := sYearsN_lt hI (n := i) (by omega)
        obtain ⟨τ, hτ⟩ : ∃ τ, τ = sYears σ i := ⟨_, rfl⟩
        rw [← hτ] at hg hE
        obtain ⟨r0, hP, hN, hS⟩ := id hg
        refine ev_iload_n dX5_passYears_25 rfl rfl ?_
        refine ev_iload_n dX5_passYears_26 rfl rfl ?_
        first | ((with_reducible show eV _ _ _ (Value.int (nI _) :: Value.int (nI _) :: _) _ _ _ _); refine ev_icmp_geN (tgt := 60) dX5_passYears_27 (by decide) (by first | exact hB _ _ | omega) (by first | exact hB _ _ | omega) (fun c_27 => ?_) (fun c_27 => ?_)) | ((with_reducible show eV _ _ _ (Value.int (nI _) :: _) _ _ _ _); refine ev_icmp_geZN (tgt := 60) dX5_passYears_27 (by decide) (by first | exact hB _ _ | omega) (fun c_27 => ?_) (fun c_27 => ?_)) | ((with_reducible show eV _ _ _ (_ :: Value.int (nI _) :: _) _ _ _ _); refine ev_icmp_geNZ (tgt := 60) dX5_passYears_27 (by decide) (by first | exact hB _ _ | omega) (fun c_27 => ?_) (fun c_27 => ?_)) | (refine ev_icmp_geZZ (tgt := 60) dX5_passYears_27 (by decide) (fun c_27 => ?_) (fun c_27 => ?_))
        · refine ev_iload_n dX5_passYears_60 rfl rfl ?_
          exact ev_iret dX5_passYears_61 rfl rfl (by exact oR (by have z : i = y := (by omega); rw [(sPass_y hok).2, he, z])) (by have z : i = y := (by omega); exact ⟨by rw [(sPass_y hok).1, ← z, ← hτ]; exact hg, FR⟩) (fun _ e => Option.some.inj e) (Nat.le_of_ble_eq_true rfl) (Nat.le_of_ble_eq_true rfl)
        · refine ev_aload_n dX5_passYears_30 rfl rfl ?_
          refine ev_dup dX5_passYears_31 rfl ?_
          refine ev_getfield dX5_passYears_32 fl_X5_29 (by first | assumption | omega | exact ePp.ob (by assumption) | exact eNm.ob (by assumption) | exact eRg.ob (by assumption)) rfl ?_
          refine ev_iconst (v := nI 1) dX5_passYears_35 rfl ?_
          first | refine ev_iaddN dX5_passYears_36 ?_ | refine ev_iadd dX5_passYears_36 ?_
          refine ev_putH dX5_passYears_37 pl_X5_29 (by first | assumption | omega | exact ePp.ob (by assumption) | exact eNm.ob (by assumption) | exact eRg.ob (by assumption)) (Nat.le_of_ble_eq_true rfl) rfl rfl (fun g_37 fr_37 w_37 => ?_)
          replace r0 := w_37
          first | replace hP := eArr.fr hP (fr_37 _ (by omega)) | replace hP := Eq.trans (fr_37 _ (by omega)) hP | replace hP := eBo.fr hP (fr_37 _ (by omega)) | replace hP := z_37 hP | replace hP := z_37 | replace hP := ePp.fr1 hP (fun a _ _ => fr_37 a (by omega)) | replace hP := eNm.fr1 hP (fun a _ _ => fr_37 a (by omega)) | replace hP := eRg.fr hP (fun a _ _ => fr_37 a (by omega))
          first | replace hN := eArr.fr hN (fr_37 _ (by omega)) | replace hN := Eq.trans (fr_37 _ (by omega)) hN | replace hN := eBo.fr hN (fr_37 _ (by omega)) | replace hN := z_37 hN | replace hN := z_37 | replace hN := ePp.fr1 hN (fun a _ _ => fr_37 a (by omega)) | replace hN := eNm.fr1 hN (fun a _ _ => fr_37 a (by omega)) | replace hN := eRg.fr hN (fun a _ _ => fr_37 a (by omega))
          first | replace hS := eArr.fr hS (fr_37 _ (by omega)) | replace hS := Eq.trans (fr_37 _ (by omega)) hS | replace hS := eBo.fr hS (fr_37 _ (by omega)) | replace hS := z_37 hS | replace hS := z_37 | replace hS := ePp.fr1 hS (fun a _ _ => fr_37 a (by omega)) | replace hS := eNm.fr1 hS (fun a _ _ => fr_37 a (by omega)) | replace hS := eRg.fr hS (fun a _ _ => fr_37 a (by omega))
          first | replace FR := eFr.trans FR (eFr.one fr_37 (by omega) (by omega)) | replace FR := eFr.trans FR (eFr.wide fr_37 (by omega) (by omega))
          have hyt : τ 0 2 < 999 := by omega
          have hI3 := hE.1.older hyt
          have hP' : ePp g_37 (r + 1) (su τ 0 2 (τ 0 2 + 1)) := hP.to (su_ne (Or.inr (by decide))) (fun f h1 h2 j _ => su_ne (Or.inl (by omega)))
          refine ev_aload_n dX5_passYears_40 rfl rfl ?_
          refine ev_getfield dX5_passYears_41 fl_X5_12 (by first | assumption | omega | exact ePp.ob (by assumption) | exact eNm.ob (by assumption) | exact eRg.ob (by assumption)) rfl ?_
          have hB3 : eB (su τ 0 2 (τ 0 2 + 1)) := fun f j => by have := (hE.1.ok hT).1 f j; unfold su; split <;> omega
          refine ev_callVv dX5_passYears_44 (c_X4_growOlder hP' hB3) rfl lk_X5_140 (by first | assumption | omega | exact ePp.ob (by assumption) | exact eNm.ob (by assumption) | exact eRg.ob (by assumption)) ⟨Nat.le_of_ble_eq_true rfl, Nat.le_of_ble_eq_true rfl⟩ rfl (Nat.le_of_ble_eq_true rfl) ⟨Nat.le_of_ble_eq_true rfl, Nat.le_of_ble_eq_true rfl⟩ (fun g_44 hg_44 => ?_)
          obtain ⟨w_44, fr_44⟩ := hg_44
          first | replace r0 := eArr.fr r0 (fr_44 _ (by omega)) | replace r0 := Eq.trans (fr_44 _ (by omega)) r0 | replace r0 := eBo.fr r0 (fr_44 _ (by omega)) | replace r0 := z_44 r0 | replace r0 := z_44 | replace r0 := ePp.fr1 r0 (fun a _ _ => fr_44 a (by omega)) | replace r0 := eNm.fr1 r0 (fun a _ _ => fr_44 a (by omega)) | replace r0 := eRg.fr r0 (fun a _ _ => fr_44 a (by omega))
          replace hP' := w_44
          first | replace hN := eArr.fr hN (fr_44 _ (by omega)) | replace hN := Eq.trans (fr_44 _ (by omega)) hN | replace hN := eBo.fr hN (fr_44 _ (by omega)) | replace hN := z_44 hN | replace hN := z_44 | replace hN := ePp.fr1 hN (fun a _ _ => fr_44 a (by omega)) | replace hN := eNm.fr1 hN (fun a _ _ => fr_44 a (by omega)) | replace hN := eRg.fr hN (fun a _ _ => fr_44 a (by omega))
          first | replace hS := eArr.fr hS (fr_44 _ (by omega)) | replace hS := Eq.trans (fr_44 _ (by omega)) hS | replace hS := eBo.fr hS (fr_44 _ (by omega)) | replace hS := z_44 hS | replace hS := z_44 | replace hS := ePp.fr1 hS (fun a _ _ => fr_44 a (by omega)) | replace hS := eNm.fr1 hS (fun a _ _ => fr_44 a (by omega)) | replace hS := eRg.fr hS (fun a _ _ => fr_44 a (by omega))
          first | replace FR := eFr.trans FR (eFr.one fr_44 (by omega) (by omega)) | replace FR := eFr.trans FR (eFr.wide fr_44 (by omega) (by omega))
          have hR3 : eRg g_44 r (sOlder τ) := ⟨by simpa [sOlder, sGrow, su] using r0, hP', hN.to (by simp [sOlder, sGrow, su]) (fun f h1 h2 j _ => by simp [sOlder, sGrow, su, show f ≠ 1 by omega, show f ≠ 0 by omega]), hS.congr (fun j _ => by simp [sOlder, sGrow, su])⟩
          refine ev_iload_n dX5_passYears_47 rfl rfl ?_
          refine ev_aload_n dX5_passYears_48 rfl rfl ?_
          refine ev_callVi dX5_passYears_49 (c_X5_endNames hR3 hI3 hT) rfl lk_X5_143 (by first | assumption | omega | exact ePp.ob (by assumption) | exact eNm.ob (by assumption) | exact eRg.ob (by assumption)) ⟨Nat.le_of_ble_eq_true rfl, Nat.le_of_ble_eq_true rfl⟩ rfl (Nat.le_of_ble_eq_true rfl) ⟨Nat.le_of_ble_eq_true rfl, Nat.le_of_ble_eq_true rfl⟩ (fun g_49 hg_49 => ?_)
          obtain ⟨w_49, fr_49⟩ := hg_49
          replace hR3 := w_49
          first | replace FR := eFr.trans FR (eFr.one fr_49 (by omega) (by omega)) | replace FR := eFr.trans FR (eFr.wide fr_49 (by omega) (by omega))
          first | refine ev_iaddN dX5_passYears_52 ?_ | refine ev_iadd dX5_passYears_52 ?_
          refine ev_istore_n dX5_passYears_53 rfl (Nat.le_of_ble_eq_true rfl) ?_
          first | refine ev_iincN dX5_passYears_54 rfl (Nat.le_of_ble_eq_true rfl) ?_ | refine ev_iinc dX5_passYears_54 rfl rfl (Nat.le_of_ble_eq_true rfl) ?_
          refine ev_goto (tgt := 25) dX5_passYears_57 (by decide) ?_
          exact (ih_25 _ (by omega) (i + 1) _ _ rfl (by first | omega | assumption | rfl) (by rw [sYearsN, ← hτ, he]; rfl) (by rw [sYears, ← hτ]; exact hR3) (by first | omega | assumption | rfl)).sub1 ⟨rfl, rfl, rfl, rfl, trivial⟩ rfl
      exact (H_25 _ 0 0 h rfl (by first | omega | assumption | rfl) (by first | omega | assumption | rfl) (by first | omega | assumption | rfl) (by first | omega | assumption | rfl)).sub1 ⟨rfl, rfl, rfl, rfl, trivial⟩ rfl
    · refine ev_iconst (v := -1) dX5_passYears_19 (by decide) ?_
      exact ev_iret dX5_passYears_20 rfl rfl (by first | exact oRn (sPass_n (sYearsOK_a c_4)).2 | exact oRn (sPass_n (sYearsOK_b c_16)).2) (by first | exact ⟨by rw [(sPass_n (sYearsOK_a c_4)).1]; exact hR, FR0⟩ | exact ⟨by rw [(sPass_n (sYearsOK_b c_16)).1]; exact hR, FR0⟩) (fun _ e => Option.some.inj e) (Nat.le_of_ble_eq_true rfl) (Nat.le_of_ble_eq_true rfl)
set_option maxHeartbeats 4000000 in
set_option maxRecDepth 20000 in
theorem c_X5_triesPerson {h : eH} {n r T : Nat} {σ : St} (hR : eRg h r σ) (hI : eIv σ T) (hT : T < 2 ^ 30) {a f b : Nat} (ha : a < 2 ^ 31) (hf : f < 2 ^ 31) (hb : b < 2 ^ 31) : kX5_triesPerson [.ref r, .int (nI a), .int (nI f), .int (nI b)] h n (.inl (some (.int (bI (sPersonOK σ a f b)))), (fun g => eRg g r (sPerson σ a f b) ∧ eFr h g r (r + 17)), some n) 0 0 := by
  refine eM.of RX5 "triesPerson" [(0, .ref r), (1, .int (nI a)), (2, .int (nI f)), (3, .int (nI b))] pn_X5 rfl rfl (Nat.le_of_ble_eq_true rfl) rfl ?_
  have hO := hI.ok hT
  have hB : eB σ := hO.1
  have FR : eFr h h r (r + 17) := eFr.rf
  obtain ⟨r0, hP, hN, hS⟩ := id hR
  refine ev_iload_n dX5_triesPerson_0 rfl rfl ?_
  refine ev_callNi dX5_triesPerson_1 (c_X10_isFamily hf) lk_X5_181 ws_yX10_isFamily ⟨Nat.le_of_ble_eq_true rfl, Nat.le_of_ble_eq_true rfl⟩ rfl (Nat.le_of_ble_eq_true rfl) ⟨Nat.le_of_ble_eq_true rfl, Nat.le_of_ble_eq_true rfl⟩ (eRo ?_)
  first | ((with_reducible show eV _ _ _ (Value.int (bI _) :: _) _ _ _ _); refine ev_if_eqB (tgt := 31) dX5_triesPerson_4 (by decide) (fun c_4 => ?_) (fun c_4 => ?_)) | ((with_reducible show eV _ _ _ (Value.int (nI _) :: _) _ _ _ _); refine ev_if_eqN (tgt := 31) dX5_triesPerson_4 (by decide) (by first | exact hB _ _ | omega) (fun c_4 => ?_) (fun c_4 => ?_)) | (refine ev_if_eqZ (tgt := 31) dX5_triesPerson_4 (by decide) (fun c_4 => ?_) (fun c_4 => ?_))
  · refine ev_iconst (v := nI 0) dX5_triesPerson_31 rfl ?_
    exact ev_iret dX5_triesPerson_32 rfl (by first | rfl | exact bI_n _) (by exact bR0 (decide_eq_false (fun z => by first | exact of_decide_eq_false c_4 z.1 | exact of_decide_eq_false c_11 z.2.1 | exact of_decide_eq_false c_18 (by omega) | exact z.2.2.2 (of_decide_eq_true c_28)))) (by exact ⟨by rw [show sPerson σ a f b = σ from if_neg (fun z => by have z := of_decide_eq_true z; first | exact of_decide_eq_false c_4 z.1 | exact of_decide_eq_false c_11 z.2.1 | exact of_decide_eq_false c_18 (by omega) | exact z.2.2.2 (of_decide_eq_true c_28))]; exact hR, FR⟩) (fun _ e => Option.some.inj e) (Nat.le_of_ble_eq_true rfl) (Nat.le_of_ble_eq_true rfl)
  · refine ev_iload_n dX5_triesPerson_7 rfl rfl ?_
    refine ev_callNi dX5_triesPerson_8 (c_X10_isBench hb) lk_X5_109 ws_yX10_isBench ⟨Nat.le_of_ble_eq_true rfl, Nat.le_of_ble_eq_true rfl⟩ rfl (Nat.le_of_ble_eq_true rfl) ⟨Nat.le_of_ble_eq_true rfl, Nat.le_of_ble_eq_true rfl⟩ (eRo ?_)
    first | ((with_reducible show eV _ _ _ (Value.int (bI _) :: _) _ _ _ _); refine ev_if_eqB (tgt := 31) dX5_triesPerson_11 (by decide) (fun c_11 => ?_) (fun c_11 => ?_)) | ((with_reducible show eV _ _ _ (Value.int (nI _) :: _) _ _ _ _); refine ev_if_eqN (tgt := 31) dX5_triesPerson_11 (by decide) (by first | exact hB _ _ | omega) (fun c_11 => ?_) (fun c_11 => ?_)) | (refine ev_if_eqZ (tgt := 31) dX5_triesPerson_11 (by decide) (fun c_11 => ?_) (fun c_11 => ?_))
    · refine ev_iconst (v := nI 0) dX5_triesPerson_31 rfl ?_
      exact ev_iret dX5_triesPerson_32 rfl (by first | rfl | exact bI_n _) (by exact bR0 (decide_eq_false (fun z => by first | exact of_decide_eq_false c_4 z.1 | exact of_decide_eq_false c_11 z.2.1 | exact of_decide_eq_false c_18 (by omega) | exact z.2.2.2 (of_decide_eq_true c_28)))) (by exact ⟨by rw [show sPerson σ a f b = σ from if_neg (fun z => by have z := of_decide_eq_true z; first | exact of_decide_eq_false c_4 z.1 | exact of_decide_eq_false c_11 z.2.1 | exact of_decide_eq_false c_18 (by omega) | exact z.2.2.2 (of_decide_eq_true c_28))]; exact hR, FR⟩) (fun _ e => Option.some.inj e) (Nat.le_of_ble_eq_true rfl) (Nat.le_of_ble_eq_true rfl)
    · refine ev_iload_n dX5_triesPerson_14 rfl rfl ?_
      refine ev_callNi dX5_triesPerson_15 (c_X10_isAgeToCome ha) lk_X5_184 ws_yX10_isAgeToCome ⟨Nat.le_of_ble_eq_true rfl, Nat.le_of_ble_eq_true rfl⟩ rfl (Nat.le_of_ble_eq_true rfl) ⟨Nat.le_of_ble_eq_true rfl, Nat.le_of_ble_eq_true rfl⟩ (eRo ?_)
      first | ((with_reducible show eV _ _ _ (Value.int (bI _) :: _) _ _ _ _); refine ev_if_eqB (tgt := 31) dX5_triesPerson_18 (by decide) (fun c_18 => ?_) (fun c_18 => ?_)) | ((with_reducible show eV _ _ _ (Value.int (nI _) :: _) _ _ _ _); refine ev_if_eqN (tgt := 31) dX5_triesPerson_18 (by decide) (by first | exact hB _ _ | omega) (fun c_18 => ?_) (fun c_18 => ?_)) | (refine ev_if_eqZ (tgt := 31) dX5_triesPerson_18 (by decide) (fun c_18 => ?_) (fun c_18 => ?_))
      · refine ev_iconst (v := nI 0) dX5_triesPerson_31 rfl ?_
        exact ev_iret dX5_triesPerson_32 rfl (by first | rfl | exact bI_n _) (by exact bR0 (decide_eq_false (fun z => by first | exact of_decide_eq_false c_4 z.1 | exact of_decide_eq_false c_11 z.2.1 | exact of_decide_eq_false c_18 (by omega) | exact z.2.2.2 (of_decide_eq_true c_28)))) (by exact ⟨by rw [show sPerson σ a f b = σ from if_neg (fun z => by have z := of_decide_eq_true z; first | exact of_decide_eq_false c_4 z.1 | exact of_decide_eq_false c_11 z.2.1 | exact of_decide_eq_false c_18 (by omega) | exact z.2.2.2 (of_decide_eq_true c_28))]; exact hR, FR⟩) (fun _ e => Option.some.inj e) (Nat.le_of_ble_eq_true rfl) (Nat.le_of_ble_eq_true rfl)
      · refine ev_aload_n dX5_triesPerson_21 rfl rfl ?_
        refine ev_getfield dX5_triesPerson_22 fl_X5_12 (by first | assumption | omega | exact ePp.ob (by assumption) | exact eNm.ob (by assumption) | exact eRg.ob (by assumption)) rfl ?_
        refine ev_callVi dX5_triesPerson_25 (c_X4_isFull hP hB) rfl lk_X5_187 (by first | assumption | omega | exact ePp.ob (by assumption) | exact eNm.ob (by assumption) | exact eRg.ob (by assumption)) ⟨Nat.le_of_ble_eq_true rfl, Nat.le_of_ble_eq_true rfl⟩ rfl (Nat.le_of_ble_eq_true rfl) ⟨Nat.le_of_ble_eq_true rfl, Nat.le_of_ble_eq_true rfl⟩ (eRo ?_)
        first | ((with_reducible show eV _ _ _ (Value.int (bI _) :: _) _ _ _ _); refine ev_if_eqB (tgt := 33) dX5_triesPerson_28 (by decide) (fun c_28 => ?_) (fun c_28 => ?_)) | ((with_reducible show eV _ _ _ (Value.int (nI _) :: _) _ _ _ _); refine ev_if_eqN (tgt := 33) dX5_triesPerson_28 (by decide) (by first | exact hB _ _ | omega) (fun c_28 => ?_) (fun c_28 => ?_)) | (refine ev_if_eqZ (tgt := 33) dX5_triesPerson_28 (by decide) (fun c_28 => ?_) (fun c_28 => ?_))
        · have hok : sPersonOK σ a f b = true := decide_eq_true ⟨of_decide_eq_true c_4, of_decide_eq_true c_11, by have := of_decide_eq_true c_18; omega, of_decide_eq_false c_28⟩
          refine ev_aload_n dX5_triesPerson_33 rfl rfl ?_
          refine ev_getfield dX5_triesPerson_34 fl_X5_12 (by first | assumption | omega | exact ePp.ob (by assumption) | exact eNm.ob (by assumption) | exact eRg.ob (by assumption)) rfl ?_
          refine ev_iload_n dX5_triesPerson_37 rfl rfl ?_
          refine ev_iload_n dX5_triesPerson_38 rfl rfl ?_
          refine ev_iload_n dX5_triesPerson_39 rfl rfl ?_
          refine ev_callVv dX5_triesPerson_40 (c_X4_add hP hB (by have := of_decide_eq_false c_28; omega)) rfl lk_X5_188 (by first | assumption | omega | exact ePp.ob (by assumption) | exact eNm.ob (by assumption) | exact eRg.ob (by assumption)) ⟨Nat.le_of_ble_eq_true rfl, Nat.le_of_ble_eq_true rfl⟩ rfl (Nat.le_of_ble_eq_true rfl) ⟨Nat.le_of_ble_eq_true rfl, Nat.le_of_ble_eq_true rfl⟩ (fun g_40 hg_40 => ?_)
          obtain ⟨w_40, fr_40⟩ := hg_40
          first | replace r0 := eArr.fr r0 (fr_40 _ (by omega)) | replace r0 := Eq.trans (fr_40 _ (by omega)) r0 | replace r0 := eBo.fr r0 (fr_40 _ (by omega)) | replace r0 := z_40 r0 | replace r0 := z_40 | replace r0 := ePp.fr1 r0 (fun a _ _ => fr_40 a (by omega)) | replace r0 := eNm.fr1 r0 (fun a _ _ => fr_40 a (by omega)) | replace r0 := eRg.fr r0 (fun a _ _ => fr_40 a (by omega))
          replace hP := w_40
          first | replace hN := eArr.fr hN (fr_40 _ (by omega)) | replace hN := Eq.trans (fr_40 _ (by omega)) hN | replace hN := eBo.fr hN (fr_40 _ (by omega)) | replace hN := z_40 hN | replace hN := z_40 | replace hN := ePp.fr1 hN (fun a _ _ => fr_40 a (by omega)) | replace hN := eNm.fr1 hN (fun a _ _ => fr_40 a (by omega)) | replace hN := eRg.fr hN (fun a _ _ => fr_40 a (by omega))
          first | replace hS := eArr.fr hS (fr_40 _ (by omega)) | replace hS := Eq.trans (fr_40 _ (by omega)) hS | replace hS := eBo.fr hS (fr_40 _ (by omega)) | replace hS := z_40 hS | replace hS := z_40 | replace hS := ePp.fr1 hS (fun a _ _ => fr_40 a (by omega)) | replace hS := eNm.fr1 hS (fun a _ _ => fr_40 a (by omega)) | replace hS := eRg.fr hS (fun a _ _ => fr_40 a (by omega))
          first | replace FR := eFr.trans FR (eFr.one fr_40 (by omega) (by omega)) | replace FR := eFr.trans FR (eFr.wide fr_40 (by omega) (by omega))
          refine ev_iconst (v := nI 1) dX5_triesPerson_43 rfl ?_
          exact ev_iret dX5_triesPerson_44 rfl (by first | rfl | exact bI_n _) (by exact bR1 hok) (by exact ⟨by rw [show sPerson σ a f b = sAddP σ a f b from if_pos hok]; exact ⟨by simpa [sAddP, su] using r0, hP, hN.to (by simp [sAddP, su]) (fun f h1 h2 j _ => by simp [sAddP, su, show f ≠ 0 by omega, show f ≠ 1 by omega, show f ≠ 2 by omega, show f ≠ 3 by omega, show f ≠ 4 by omega, show f ≠ 5 by omega]), hS.congr (fun j _ => by simp [sAddP, su])⟩, FR⟩) (fun _ e => Option.some.inj e) (Nat.le_of_ble_eq_true rfl) (Nat.le_of_ble_eq_true rfl)
        · refine ev_iconst (v := nI 0) dX5_triesPerson_31 rfl ?_
          exact ev_iret dX5_triesPerson_32 rfl (by first | rfl | exact bI_n _) (by exact bR0 (decide_eq_false (fun z => by first | exact of_decide_eq_false c_4 z.1 | exact of_decide_eq_false c_11 z.2.1 | exact of_decide_eq_false c_18 (by omega) | exact z.2.2.2 (of_decide_eq_true c_28)))) (by exact ⟨by rw [show sPerson σ a f b = σ from if_neg (fun z => by have z := of_decide_eq_true z; first | exact of_decide_eq_false c_4 z.1 | exact of_decide_eq_false c_11 z.2.1 | exact of_decide_eq_false c_18 (by omega) | exact z.2.2.2 (of_decide_eq_true c_28))]; exact hR, FR⟩) (fun _ e => Option.some.inj e) (Nat.le_of_ble_eq_true rfl) (Nat.le_of_ble_eq_true rfl)
set_option maxHeartbeats 4000000 in
set_option maxRecDepth 20000 in
theorem c_X5_triesSitting {h : eH} {n r T : Nat} {σ : St} (hR : eRg h r σ) (hI : eIv σ T) (hT : T < 2 ^ 30) {p b : Nat} (hp : p < 2 ^ 31) (hb : b < 2 ^ 31) : kX5_triesSitting [.ref r, .int (nI p), .int (nI b)] h n (.inl (some (.int (bI (sSitOK σ p b)))), (fun g => eRg g r (sSit σ p b) ∧ eFr h g r (r + 17)), some n) 0 0 := by
  refine eM.of RX5 "triesSitting" [(0, .ref r), (1, .int (nI p)), (2, .int (nI b))] pn_X5 rfl rfl (Nat.le_of_ble_eq_true rfl) rfl ?_
  have hO := hI.ok hT
  have hB : eB σ := hO.1
  have FR : eFr h h r (r + 17) := eFr.rf
  obtain ⟨r0, hP, hN, hS⟩ := id hR
  obtain ⟨p0, p1, p2, p3, p4, p5⟩ := id hP
  have hm := p1.1
  refine ev_aload_n dX5_triesSitting_0 rfl rfl ?_
  refine ev_getfield dX5_triesSitting_1 fl_X5_12 (by first | assumption | omega | exact ePp.ob (by assumption) | exact eNm.ob (by assumption) | exact eRg.ob (by assumption)) rfl ?_
  refine ev_iload_n dX5_triesSitting_4 rfl rfl ?_
  refine ev_callVi dX5_triesSitting_5 (c_X4_has hP hB p hp) rfl lk_X5_128 (by first | assumption | omega | exact ePp.ob (by assumption) | exact eNm.ob (by assumption) | exact eRg.ob (by assumption)) ⟨Nat.le_of_ble_eq_true rfl, Nat.le_of_ble_eq_true rfl⟩ rfl (Nat.le_of_ble_eq_true rfl) ⟨Nat.le_of_ble_eq_true rfl, Nat.le_of_ble_eq_true rfl⟩ (eRo ?_)
  first | ((with_reducible show eV _ _ _ (Value.int (bI _) :: _) _ _ _ _); refine ev_if_eqB (tgt := 27) dX5_triesSitting_8 (by decide) (fun c_8 => ?_) (fun c_8 => ?_)) | ((with_reducible show eV _ _ _ (Value.int (nI _) :: _) _ _ _ _); refine ev_if_eqN (tgt := 27) dX5_triesSitting_8 (by decide) (by first | exact hB _ _ | omega) (fun c_8 => ?_) (fun c_8 => ?_)) | (refine ev_if_eqZ (tgt := 27) dX5_triesSitting_8 (by decide) (fun c_8 => ?_) (fun c_8 => ?_))
  · refine ev_iconst (v := nI 0) dX5_triesSitting_27 rfl ?_
    exact ev_iret dX5_triesSitting_28 rfl (by first | rfl | exact bI_n _) (by first | exact bR0 (sSit_a c_8).1 | exact bR0 (sSit_b c_15).1 | exact bR0 (sSit_c c_24).1) (by first | exact ⟨by rw [(sSit_a c_8).2]; exact hR, FR⟩ | exact ⟨by rw [(sSit_b c_15).2]; exact hR, FR⟩ | exact ⟨by rw [(sSit_c c_24).2]; exact hR, FR⟩) (fun _ e => Option.some.inj e) (Nat.le_of_ble_eq_true rfl) (Nat.le_of_ble_eq_true rfl)
  · refine ev_iload_n dX5_triesSitting_11 rfl rfl ?_
    refine ev_callNi dX5_triesSitting_12 (c_X10_isBench hb) lk_X5_109 ws_yX10_isBench ⟨Nat.le_of_ble_eq_true rfl, Nat.le_of_ble_eq_true rfl⟩ rfl (Nat.le_of_ble_eq_true rfl) ⟨Nat.le_of_ble_eq_true rfl, Nat.le_of_ble_eq_true rfl⟩ (eRo ?_)
    first | ((with_reducible show eV _ _ _ (Value.int (bI _) :: _) _ _ _ _); refine ev_if_eqB (tgt := 27) dX5_triesSitting_15 (by decide) (fun c_15 => ?_) (fun c_15 => ?_)) | ((with_reducible show eV _ _ _ (Value.int (nI _) :: _) _ _ _ _); refine ev_if_eqN (tgt := 27) dX5_triesSitting_15 (by decide) (by first | exact hB _ _ | omega) (fun c_15 => ?_) (fun c_15 => ?_)) | (refine ev_if_eqZ (tgt := 27) dX5_triesSitting_15 (by decide) (fun c_15 => ?_) (fun c_15 => ?_))
    · refine ev_iconst (v := nI 0) dX5_triesSitting_27 rfl ?_
      exact ev_iret dX5_triesSitting_28 rfl (by first | rfl | exact bI_n _) (by first | exact bR0 (sSit_a c_8).1 | exact bR0 (sSit_b c_15).1 | exact bR0 (sSit_c c_24).1) (by first | exact ⟨by rw [(sSit_a c_8).2]; exact hR, FR⟩ | exact ⟨by rw [(sSit_b c_15).2]; exact hR, FR⟩ | exact ⟨by rw [(sSit_c c_24).2]; exact hR, FR⟩) (fun _ e => Option.some.inj e) (Nat.le_of_ble_eq_true rfl) (Nat.le_of_ble_eq_true rfl)
    · refine ev_aload_n dX5_triesSitting_18 rfl rfl ?_
      refine ev_iload_n dX5_triesSitting_19 rfl rfl ?_
      refine ev_iload_n dX5_triesSitting_20 rfl rfl ?_
      refine ev_callVi dX5_triesSitting_21 (c_X5_isKeptFrom hR hO hp hb) rfl lk_X5_190 (by first | assumption | omega | exact ePp.ob (by assumption) | exact eNm.ob (by assumption) | exact eRg.ob (by assumption)) ⟨Nat.le_of_ble_eq_true rfl, Nat.le_of_ble_eq_true rfl⟩ rfl (Nat.le_of_ble_eq_true rfl) ⟨Nat.le_of_ble_eq_true rfl, Nat.le_of_ble_eq_true rfl⟩ (eRo ?_)
      first | ((with_reducible show eV _ _ _ (Value.int (bI _) :: _) _ _ _ _); refine ev_if_eqB (tgt := 29) dX5_triesSitting_24 (by decide) (fun c_24 => ?_) (fun c_24 => ?_)) | ((with_reducible show eV _ _ _ (Value.int (nI _) :: _) _ _ _ _); refine ev_if_eqN (tgt := 29) dX5_triesSitting_24 (by decide) (by first | exact hB _ _ | omega) (fun c_24 => ?_) (fun c_24 => ?_)) | (refine ev_if_eqZ (tgt := 29) dX5_triesSitting_24 (by decide) (fun c_24 => ?_) (fun c_24 => ?_))
      · have hpl := of_decide_eq_true c_8
        refine ev_aload_n dX5_triesSitting_29 rfl rfl ?_
        refine ev_getfield dX5_triesSitting_30 fl_X5_12 (by first | assumption | omega | exact ePp.ob (by assumption) | exact eNm.ob (by assumption) | exact eRg.ob (by assumption)) rfl ?_
        refine ev_getfield dX5_triesSitting_33 fl_X5_63 (by first | assumption | omega | exact ePp.ob (by assumption) | exact eNm.ob (by assumption) | exact eRg.ob (by assumption)) rfl ?_
        refine ev_iload_n dX5_triesSitting_36 rfl rfl ?_
        refine ev_iload_n dX5_triesSitting_37 rfl rfl ?_
        refine ev_iastoreA dX5_triesSitting_38 (by first | assumption | omega | exact ePp.ob (by assumption) | exact eNm.ob (by assumption) | exact eRg.ob (by assumption)) (by first | assumption | omega | exact ePp.ob (by assumption) | exact eNm.ob (by assumption) | exact eRg.ob (by assumption)) (fun g_38 fr_38 w_38 => ?_)
        first | replace r0 := eArr.fr r0 (fr_38 _ (by omega)) | replace r0 := Eq.trans (fr_38 _ (by omega)) r0 | replace r0 := eBo.fr r0 (fr_38 _ (by omega)) | replace r0 := z_38 r0 | replace r0 := z_38 | replace r0 := ePp.fr1 r0 (fun a _ _ => fr_38 a (by omega)) | replace r0 := eNm.fr1 r0 (fun a _ _ => fr_38 a (by omega)) | replace r0 := eRg.fr r0 (fun a _ _ => fr_38 a (by omega))
        first | replace p0 := eArr.fr p0 (fr_38 _ (by omega)) | replace p0 := Eq.trans (fr_38 _ (by omega)) p0 | replace p0 := eBo.fr p0 (fr_38 _ (by omega)) | replace p0 := z_38 p0 | replace p0 := z_38 | replace p0 := ePp.fr1 p0 (fun a _ _ => fr_38 a (by omega)) | replace p0 := eNm.fr1 p0 (fun a _ _ => fr_38 a (by omega)) | replace p0 := eRg.fr p0 (fun a _ _ => fr_38 a (by omega))
        first | replace p1 := eArr.fr p1 (fr_38 _ (by omega)) | replace p1 := Eq.trans (fr_38 _ (by omega)) p1 | replace p1 := eBo.fr p1 (fr_38 _ (by omega)) | replace p1 := z_38 p1 | replace p1 := z_38 | replace p1 := ePp.fr1 p1 (fun a _ _ => fr_38 a (by omega)) | replace p1 := eNm.fr1 p1 (fun a _ _ => fr_38 a (by omega)) | replace p1 := eRg.fr p1 (fun a _ _ => fr_38 a (by omega))
        first | replace p2 := eArr.fr p2 (fr_38 _ (by omega)) | replace p2 := Eq.trans (fr_38 _ (by omega)) p2 | replace p2 := eBo.fr p2 (fr_38 _ (by omega)) | replace p2 := z_38 p2 | replace p2 := z_38 | replace p2 := ePp.fr1 p2 (fun a _ _ => fr_38 a (by omega)) | replace p2 := eNm.fr1 p2 (fun a _ _ => fr_38 a (by omega)) | replace p2 := eRg.fr p2 (fun a _ _ => fr_38 a (by omega))
        replace p3 := w_38 _ (Or.inl (Nat.le_refl _))
        first | replace p4 := eArr.fr p4 (fr_38 _ (by omega)) | replace p4 := Eq.trans (fr_38 _ (by omega)) p4 | replace p4 := eBo.fr p4 (fr_38 _ (by omega)) | replace p4 := z_38 p4 | replace p4 := z_38 | replace p4 := ePp.fr1 p4 (fun a _ _ => fr_38 a (by omega)) | replace p4 := eNm.fr1 p4 (fun a _ _ => fr_38 a (by omega)) | replace p4 := eRg.fr p4 (fun a _ _ => fr_38 a (by omega))
        first | replace p5 := eArr.fr p5 (fr_38 _ (by omega)) | replace p5 := Eq.trans (fr_38 _ (by omega)) p5 | replace p5 := eBo.fr p5 (fr_38 _ (by omega)) | replace p5 := z_38 p5 | replace p5 := z_38 | replace p5 := ePp.fr1 p5 (fun a _ _ => fr_38 a (by omega)) | replace p5 := eNm.fr1 p5 (fun a _ _ => fr_38 a (by omega)) | replace p5 := eRg.fr p5 (fun a _ _ => fr_38 a (by omega))
        first | replace hN := eArr.fr hN (fr_38 _ (by omega)) | replace hN := Eq.trans (fr_38 _ (by omega)) hN | replace hN := eBo.fr hN (fr_38 _ (by omega)) | replace hN := z_38 hN | replace hN := z_38 | replace hN := ePp.fr1 hN (fun a _ _ => fr_38 a (by omega)) | replace hN := eNm.fr1 hN (fun a _ _ => fr_38 a (by omega)) | replace hN := eRg.fr hN (fun a _ _ => fr_38 a (by omega))
        first | replace hS := eArr.fr hS (fr_38 _ (by omega)) | replace hS := Eq.trans (fr_38 _ (by omega)) hS | replace hS := eBo.fr hS (fr_38 _ (by omega)) | replace hS := z_38 hS | replace hS := z_38 | replace hS := ePp.fr1 hS (fun a _ _ => fr_38 a (by omega)) | replace hS := eNm.fr1 hS (fun a _ _ => fr_38 a (by omega)) | replace hS := eRg.fr hS (fun a _ _ => fr_38 a (by omega))
        first | replace FR := eFr.trans FR (eFr.one fr_38 (by omega) (by omega)) | replace FR := eFr.trans FR (eFr.wide fr_38 (by omega) (by omega))
        refine ev_iconst (v := nI 1) dX5_triesSitting_39 rfl ?_
        exact ev_iret dX5_triesSitting_40 rfl (by first | rfl | exact bI_n _) (by exact bR1 (sSit_y c_8 c_15 c_24).1) (by exact ⟨by rw [(sSit_y c_8 c_15 c_24).2]; exact ⟨by simpa [su] using r0, ⟨p0, p1.congr (fun j _ => by simp [su]), p2.congr (fun j _ => by simp [su]), p3.congr (fun j _ => by simp [su]), p4.congr (fun j _ => by simp [su]), p5.congr (fun j _ => by simp [su])⟩, hN.to (by simp [su]) (fun f h1 h2 j _ => by simp [su, show f ≠ 3 by omega]), hS.congr (fun j _ => by simp [su])⟩, FR⟩) (fun _ e => Option.some.inj e) (Nat.le_of_ble_eq_true rfl) (Nat.le_of_ble_eq_true rfl)
      · refine ev_iconst (v := nI 0) dX5_triesSitting_27 rfl ?_
        exact ev_iret dX5_triesSitting_28 rfl (by first | rfl | exact bI_n _) (by first | exact bR0 (sSit_a c_8).1 | exact bR0 (sSit_b c_15).1 | exact bR0 (sSit_c c_24).1) (by first | exact ⟨by rw [(sSit_a c_8).2]; exact hR, FR⟩ | exact ⟨by rw [(sSit_b c_15).2]; exact hR, FR⟩ | exact ⟨by rw [(sSit_c c_24).2]; exact hR, FR⟩) (fun _ e => Option.some.inj e) (Nat.le_of_ble_eq_true rfl) (Nat.le_of_ble_eq_true rfl)
set_option maxHeartbeats 4000000 in
set_option maxRecDepth 20000 in
theorem c_X5_triesGiving {h : eH} {n r T : Nat} {σ : St} (hR : eRg h r σ) (hI : eIv σ T) (hT : T < 2 ^ 30) {g p m c : Nat} (hg : g < 2 ^ 31) (hp : p < 2 ^ 31) (hm : m < 2 ^ 31) (hc : c < 2 ^ 31) : kX5_triesGiving [.ref r, .int (nI g), .int (nI p), .int (nI m), .int (nI c)] h n (.inl (some (.int (bI (sGiveOK σ g p m c)))), (fun g' => eRg g' r (sGive σ g p m c) ∧ eFr h g' r (r + 17)), some n) 0 0 := by
  refine eM.of RX5 "triesGiving" [(0, .ref r), (1, .int (nI g)), (2, .int (nI p)), (3, .int (nI m)), (4, .int (nI c))] pn_X5 rfl rfl (Nat.le_of_ble_eq_true rfl) rfl ?_
  have hO := hI.ok hT
  have hB : eB σ := hO.1
  have FR : eFr h h r (r + 17) := eFr.rf
  obtain ⟨r0, hP, hN, hS⟩ := id hR
  refine ev_aload_n dX5_triesGiving_0 rfl rfl ?_
  refine ev_getfield dX5_triesGiving_1 fl_X5_12 (by first | assumption | omega | exact ePp.ob (by assumption) | exact eNm.ob (by assumption) | exact eRg.ob (by assumption)) rfl ?_
  refine ev_iload_n dX5_triesGiving_4 rfl rfl ?_
  refine ev_callVi dX5_triesGiving_5 (c_X4_has hP hB g hg) rfl lk_X5_128 (by first | assumption | omega | exact ePp.ob (by assumption) | exact eNm.ob (by assumption) | exact eRg.ob (by assumption)) ⟨Nat.le_of_ble_eq_true rfl, Nat.le_of_ble_eq_true rfl⟩ rfl (Nat.le_of_ble_eq_true rfl) ⟨Nat.le_of_ble_eq_true rfl, Nat.le_of_ble_eq_true rfl⟩ (eRo ?_)
  first | ((with_reducible show eV _ _ _ (Value.int (bI _) :: _) _ _ _ _); refine ev_if_eqB (tgt := 31) dX5_triesGiving_8 (by decide) (fun c_8 => ?_) (fun c_8 => ?_)) | ((with_reducible show eV _ _ _ (Value.int (nI _) :: _) _ _ _ _); refine ev_if_eqN (tgt := 31) dX5_triesGiving_8 (by decide) (by first | exact hB _ _ | omega | exact Nat.lt_of_le_of_lt (sWhy_5 _ _ _ _ _) (by decide)) (fun c_8 => ?_) (fun c_8 => ?_)) | (refine ev_if_eqZ (tgt := 31) dX5_triesGiving_8 (by decide) (fun c_8 => ?_) (fun c_8 => ?_))
  · refine ev_iconst (v := nI 0) dX5_triesGiving_31 rfl ?_
    exact ev_iret dX5_triesGiving_32 rfl (by first | rfl | exact bI_n _) (by first | exact bR0 (sGive_a c_8).1 | exact bR0 (sGive_b c_19).1 | exact bR0 (sGive_c c_28).1) (by first | exact ⟨by rw [(sGive_a c_8).2]; exact hR, FR⟩ | exact ⟨by rw [(sGive_b c_19).2]; exact hR, FR⟩ | exact ⟨by rw [(sGive_c c_28).2]; exact hR, FR⟩) (fun _ e => Option.some.inj e) (Nat.le_of_ble_eq_true rfl) (Nat.le_of_ble_eq_true rfl)
  · refine ev_aload_n dX5_triesGiving_11 rfl rfl ?_
    refine ev_getfield dX5_triesGiving_12 fl_X5_12 (by first | assumption | omega | exact ePp.ob (by assumption) | exact eNm.ob (by assumption) | exact eRg.ob (by assumption)) rfl ?_
    refine ev_iload_n dX5_triesGiving_15 rfl rfl ?_
    refine ev_callVi dX5_triesGiving_16 (c_X4_has hP hB p hp) rfl lk_X5_128 (by first | assumption | omega | exact ePp.ob (by assumption) | exact eNm.ob (by assumption) | exact eRg.ob (by assumption)) ⟨Nat.le_of_ble_eq_true rfl, Nat.le_of_ble_eq_true rfl⟩ rfl (Nat.le_of_ble_eq_true rfl) ⟨Nat.le_of_ble_eq_true rfl, Nat.le_of_ble_eq_true rfl⟩ (eRo ?_)
    first | ((with_reducible show eV _ _ _ (Value.int (bI _) :: _) _ _ _ _); refine ev_if_eqB (tgt := 31) dX5_triesGiving_19 (by decide) (fun c_19 => ?_) (fun c_19 => ?_)) | ((with_reducible show eV _ _ _ (Value.int (nI _) :: _) _ _ _ _); refine ev_if_eqN (tgt := 31) dX5_triesGiving_19 (by decide) (by first | exact hB _ _ | omega | exact Nat.lt_of_le_of_lt (sWhy_5 _ _ _ _ _) (by decide)) (fun c_19 => ?_) (fun c_19 => ?_)) | (refine ev_if_eqZ (tgt := 31) dX5_triesGiving_19 (by decide) (fun c_19 => ?_) (fun c_19 => ?_))
    · refine ev_iconst (v := nI 0) dX5_triesGiving_31 rfl ?_
      exact ev_iret dX5_triesGiving_32 rfl (by first | rfl | exact bI_n _) (by first | exact bR0 (sGive_a c_8).1 | exact bR0 (sGive_b c_19).1 | exact bR0 (sGive_c c_28).1) (by first | exact ⟨by rw [(sGive_a c_8).2]; exact hR, FR⟩ | exact ⟨by rw [(sGive_b c_19).2]; exact hR, FR⟩ | exact ⟨by rw [(sGive_c c_28).2]; exact hR, FR⟩) (fun _ e => Option.some.inj e) (Nat.le_of_ble_eq_true rfl) (Nat.le_of_ble_eq_true rfl)
    · refine ev_iload_n dX5_triesGiving_22 rfl rfl ?_
      refine ev_iload dX5_triesGiving_23 rfl ?_
      refine ev_callSi dX5_triesGiving_25 (c_X0_isCode hm hc) lk_X5_112 ⟨Nat.le_of_ble_eq_true rfl, Nat.le_of_ble_eq_true rfl⟩ rfl (Nat.le_of_ble_eq_true rfl) ⟨Nat.le_of_ble_eq_true rfl, Nat.le_of_ble_eq_true rfl⟩ (eRo ?_)
      first | ((with_reducible show eV _ _ _ (Value.int (bI _) :: _) _ _ _ _); refine ev_if_neB (tgt := 33) dX5_triesGiving_28 (by decide) (fun c_28 => ?_) (fun c_28 => ?_)) | ((with_reducible show eV _ _ _ (Value.int (nI _) :: _) _ _ _ _); refine ev_if_neN (tgt := 33) dX5_triesGiving_28 (by decide) (by first | exact hB _ _ | omega | exact Nat.lt_of_le_of_lt (sWhy_5 _ _ _ _ _) (by decide)) (fun c_28 => ?_) (fun c_28 => ?_)) | (refine ev_if_neZ (tgt := 33) dX5_triesGiving_28 (by decide) (fun c_28 => ?_) (fun c_28 => ?_))
      · refine ev_aload_n dX5_triesGiving_33 rfl rfl ?_
        refine ev_iload_n dX5_triesGiving_34 rfl rfl ?_
        refine ev_iload_n dX5_triesGiving_35 rfl rfl ?_
        refine ev_iload_n dX5_triesGiving_36 rfl rfl ?_
        refine ev_iload dX5_triesGiving_37 rfl ?_
        refine ev_callVi dX5_triesGiving_39 (c_X5_reasonAgainst hR hO (of_decide_eq_true c_8) (of_decide_eq_true c_19) hm hc) rfl lk_X5_193 (by first | assumption | omega | exact ePp.ob (by assumption) | exact eNm.ob (by assumption) | exact eRg.ob (by assumption)) ⟨Nat.le_of_ble_eq_true rfl, Nat.le_of_ble_eq_true rfl⟩ rfl (Nat.le_of_ble_eq_true rfl) ⟨Nat.le_of_ble_eq_true rfl, Nat.le_of_ble_eq_true rfl⟩ (eRo ?_)
        first | ((with_reducible show eV _ _ _ (Value.int (bI _) :: _) _ _ _ _); refine ev_if_eqB (tgt := 47) dX5_triesGiving_42 (by decide) (fun c_42 => ?_) (fun c_42 => ?_)) | ((with_reducible show eV _ _ _ (Value.int (nI _) :: _) _ _ _ _); refine ev_if_eqN (tgt := 47) dX5_triesGiving_42 (by decide) (by first | exact hB _ _ | omega | exact Nat.lt_of_le_of_lt (sWhy_5 _ _ _ _ _) (by decide)) (fun c_42 => ?_) (fun c_42 => ?_)) | (refine ev_if_eqZ (tgt := 47) dX5_triesGiving_42 (by decide) (fun c_42 => ?_) (fun c_42 => ?_))
        · refine ev_aload_n dX5_triesGiving_47 rfl rfl ?_
          refine ev_getfield dX5_triesGiving_48 fl_X5_21 (by first | assumption | omega | exact ePp.ob (by assumption) | exact eNm.ob (by assumption) | exact eRg.ob (by assumption)) rfl ?_
          refine ev_iload_n dX5_triesGiving_51 rfl rfl ?_
          refine ev_iload_n dX5_triesGiving_52 rfl rfl ?_
          refine ev_iload_n dX5_triesGiving_53 rfl rfl ?_
          refine ev_iload dX5_triesGiving_54 rfl ?_
          refine ev_aload_n dX5_triesGiving_56 rfl rfl ?_
          refine ev_getfield dX5_triesGiving_57 fl_X5_29 (by first | assumption | omega | exact ePp.ob (by assumption) | exact eNm.ob (by assumption) | exact eRg.ob (by assumption)) rfl ?_
          refine ev_callVv dX5_triesGiving_60 (c_X2_add hN hB (sWhy_40 c_42)) rfl lk_X5_166 (by first | assumption | omega | exact ePp.ob (by assumption) | exact eNm.ob (by assumption) | exact eRg.ob (by assumption)) ⟨Nat.le_of_ble_eq_true rfl, Nat.le_of_ble_eq_true rfl⟩ rfl (Nat.le_of_ble_eq_true rfl) ⟨Nat.le_of_ble_eq_true rfl, Nat.le_of_ble_eq_true rfl⟩ (fun g_60 hg_60 => ?_)
          obtain ⟨w_60, fr_60⟩ := hg_60
          first | replace r0 := eArr.fr r0 (fr_60 _ (by omega)) | replace r0 := Eq.trans (fr_60 _ (by omega)) r0 | replace r0 := eBo.fr r0 (fr_60 _ (by omega)) | replace r0 := z_60 r0 | replace r0 := z_60 | replace r0 := ePp.fr1 r0 (fun a _ _ => fr_60 a (by omega)) | replace r0 := eNm.fr1 r0 (fun a _ _ => fr_60 a (by omega)) | replace r0 := eRg.fr r0 (fun a _ _ => fr_60 a (by omega))
          first | replace hP := eArr.fr hP (fr_60 _ (by omega)) | replace hP := Eq.trans (fr_60 _ (by omega)) hP | replace hP := eBo.fr hP (fr_60 _ (by omega)) | replace hP := z_60 hP | replace hP := z_60 | replace hP := ePp.fr1 hP (fun a _ _ => fr_60 a (by omega)) | replace hP := eNm.fr1 hP (fun a _ _ => fr_60 a (by omega)) | replace hP := eRg.fr hP (fun a _ _ => fr_60 a (by omega))
          replace hN := w_60
          first | replace hS := eArr.fr hS (fr_60 _ (by omega)) | replace hS := Eq.trans (fr_60 _ (by omega)) hS | replace hS := eBo.fr hS (fr_60 _ (by omega)) | replace hS := z_60 hS | replace hS := z_60 | replace hS := ePp.fr1 hS (fun a _ _ => fr_60 a (by omega)) | replace hS := eNm.fr1 hS (fun a _ _ => fr_60 a (by omega)) | replace hS := eRg.fr hS (fun a _ _ => fr_60 a (by omega))
          first | replace FR := eFr.trans FR (eFr.one fr_60 (by omega) (by omega)) | replace FR := eFr.trans FR (eFr.wide fr_60 (by omega) (by omega))
          refine ev_iconst (v := nI 1) dX5_triesGiving_63 rfl ?_
          exact ev_iret dX5_triesGiving_64 rfl (by first | rfl | exact bI_n _) (by exact bR1 (sGive_y c_8 c_19 c_28 c_42).1) (by exact ⟨by rw [(sGive_y c_8 c_19 c_28 c_42).2]; exact eRg.by r0 hP hN hS (fun i hi => by simp [sAddN, su, hi]) (fun f h1 h2 j => by simp [sAddN, su, show f ≠ 0 by omega, show f ≠ 6 by omega, show f ≠ 7 by omega, show f ≠ 8 by omega, show f ≠ 9 by omega, show f ≠ 10 by omega, show f ≠ 11 by omega, show f ≠ 12 by omega, show f ≠ 13 by omega]) (fun j => by simp [sAddN, su]), FR⟩) (fun _ e => Option.some.inj e) (Nat.le_of_ble_eq_true rfl) (Nat.le_of_ble_eq_true rfl)
        · refine ev_iconst (v := nI 0) dX5_triesGiving_45 rfl ?_
          exact ev_iret dX5_triesGiving_46 rfl (by first | rfl | exact bI_n _) (by exact bR0 (sGive_d c_42).1) (by exact ⟨by rw [(sGive_d c_42).2]; exact hR, FR⟩) (fun _ e => Option.some.inj e) (Nat.le_of_ble_eq_true rfl) (Nat.le_of_ble_eq_true rfl)
      · refine ev_iconst (v := nI 0) dX5_triesGiving_31 rfl ?_
        exact ev_iret dX5_triesGiving_32 rfl (by first | rfl | exact bI_n _) (by first | exact bR0 (sGive_a c_8).1 | exact bR0 (sGive_b c_19).1 | exact bR0 (sGive_c c_28).1) (by first | exact ⟨by rw [(sGive_a c_8).2]; exact hR, FR⟩ | exact ⟨by rw [(sGive_b c_19).2]; exact hR, FR⟩ | exact ⟨by rw [(sGive_c c_28).2]; exact hR, FR⟩) (fun _ e => Option.some.inj e) (Nat.le_of_ble_eq_true rfl) (Nat.le_of_ble_eq_true rfl)
set_option maxHeartbeats 4000000 in
set_option maxRecDepth 20000 in
theorem c_X5_triesSetting {h : eH} {n r : Nat} {σ : St} (hR : eRg h r σ) {w v : Nat} (hw : w < 2 ^ 31) (hv : v < 2 ^ 31) : kX5_triesSetting [.ref r, .int (nI w), .int (nI v)] h n (.inl (some (.int (bI (sSetOK w v)))), (fun g => eRg g r (sSet σ w v) ∧ eFr h g r (r + 17)), some n) 0 0 := by
  refine eM.of RX5 "triesSetting" [(0, .ref r), (1, .int (nI w)), (2, .int (nI v))] pn_X5 rfl rfl (Nat.le_of_ble_eq_true rfl) rfl ?_
  have FR : eFr h h r (r + 17) := eFr.rf
  obtain ⟨r0, hP, hN, hS⟩ := id hR
  refine ev_iload_n dX5_triesSetting_0 rfl rfl ?_
  refine ev_iload_n dX5_triesSetting_1 rfl rfl ?_
  refine ev_callNi dX5_triesSetting_2 (c_X10_isSettingWith hw hv) lk_X5_197 ws_yX10_isSettingWith ⟨Nat.le_of_ble_eq_true rfl, Nat.le_of_ble_eq_true rfl⟩ rfl (Nat.le_of_ble_eq_true rfl) ⟨Nat.le_of_ble_eq_true rfl, Nat.le_of_ble_eq_true rfl⟩ (eRo ?_)
  first | ((with_reducible show eV _ _ _ (Value.int (bI _) :: _) _ _ _ _); refine ev_if_neB (tgt := 10) dX5_triesSetting_5 (by decide) (fun c_5 => ?_) (fun c_5 => ?_)) | ((with_reducible show eV _ _ _ (Value.int (nI _) :: _) _ _ _ _); refine ev_if_neN (tgt := 10) dX5_triesSetting_5 (by decide) (by first | exact hB _ _ | omega) (fun c_5 => ?_) (fun c_5 => ?_)) | (refine ev_if_neZ (tgt := 10) dX5_triesSetting_5 (by decide) (fun c_5 => ?_) (fun c_5 => ?_))
  · have hw3 := (of_decide_eq_true c_5).1
    refine ev_aload_n dX5_triesSetting_10 rfl rfl ?_
    refine ev_getfield dX5_triesSetting_11 fl_X5_25 (by first | assumption | omega | exact ePp.ob (by assumption) | exact eNm.ob (by assumption) | exact eRg.ob (by assumption)) rfl ?_
    refine ev_iload_n dX5_triesSetting_14 rfl rfl ?_
    refine ev_iload_n dX5_triesSetting_15 rfl rfl ?_
    refine ev_iastoreA dX5_triesSetting_16 (by first | assumption | omega | exact ePp.ob (by assumption) | exact eNm.ob (by assumption) | exact eRg.ob (by assumption)) (by first | assumption | omega | exact ePp.ob (by assumption) | exact eNm.ob (by assumption) | exact eRg.ob (by assumption)) (fun g_16 fr_16 w_16 => ?_)
    first | replace r0 := eArr.fr r0 (fr_16 _ (by omega)) | replace r0 := Eq.trans (fr_16 _ (by omega)) r0 | replace r0 := eBo.fr r0 (fr_16 _ (by omega)) | replace r0 := z_16 r0 | replace r0 := z_16 | replace r0 := ePp.fr1 r0 (fun a _ _ => fr_16 a (by omega)) | replace r0 := eNm.fr1 r0 (fun a _ _ => fr_16 a (by omega)) | replace r0 := eRg.fr r0 (fun a _ _ => fr_16 a (by omega))
    first | replace hP := eArr.fr hP (fr_16 _ (by omega)) | replace hP := Eq.trans (fr_16 _ (by omega)) hP | replace hP := eBo.fr hP (fr_16 _ (by omega)) | replace hP := z_16 hP | replace hP := z_16 | replace hP := ePp.fr1 hP (fun a _ _ => fr_16 a (by omega)) | replace hP := eNm.fr1 hP (fun a _ _ => fr_16 a (by omega)) | replace hP := eRg.fr hP (fun a _ _ => fr_16 a (by omega))
    first | replace hN := eArr.fr hN (fr_16 _ (by omega)) | replace hN := Eq.trans (fr_16 _ (by omega)) hN | replace hN := eBo.fr hN (fr_16 _ (by omega)) | replace hN := z_16 hN | replace hN := z_16 | replace hN := ePp.fr1 hN (fun a _ _ => fr_16 a (by omega)) | replace hN := eNm.fr1 hN (fun a _ _ => fr_16 a (by omega)) | replace hN := eRg.fr hN (fun a _ _ => fr_16 a (by omega))
    replace hS := w_16 _ (Or.inl (Nat.le_refl _))
    first | replace FR := eFr.trans FR (eFr.one fr_16 (by omega) (by omega)) | replace FR := eFr.trans FR (eFr.wide fr_16 (by omega) (by omega))
    refine ev_iconst (v := nI 1) dX5_triesSetting_17 rfl ?_
    exact ev_iret dX5_triesSetting_18 rfl (by first | rfl | exact bI_n _) (by exact bR1 c_5) (by exact ⟨by rw [show sSet σ w v = su σ 14 w v from if_pos c_5]; exact ⟨by simpa [su] using r0, hP.to (by simp [su]) (fun f h1 h2 j _ => by simp [su, show f ≠ 14 by omega]), hN.to (by simp [su]) (fun f h1 h2 j _ => by simp [su, show f ≠ 14 by omega]), hS.congr (fun j _ => by simp [su])⟩, FR⟩) (fun _ e => Option.some.inj e) (Nat.le_of_ble_eq_true rfl) (Nat.le_of_ble_eq_true rfl)
  · refine ev_iconst (v := nI 0) dX5_triesSetting_8 rfl ?_
    exact ev_iret dX5_triesSetting_9 rfl (by first | rfl | exact bI_n _) (by exact bR0 c_5) (by exact ⟨by rw [show sSet σ w v = σ from if_neg (by rw [c_5]; decide)]; exact hR, FR⟩) (fun _ e => Option.some.inj e) (Nat.le_of_ble_eq_true rfl) (Nat.le_of_ble_eq_true rfl)

