theorem lks6 {o : Option Nat} {a1 a2 a3 a4 a5 a6 df : Int} (a : ¬ o = some 98) (b : ¬ o = some 99) (c : ¬ o = some 103) (d : ¬ o = some 112) (e : ¬ o = some 115) (f : ¬ o = some 121) (hx : ∀ s, o = some s → s < 2 ^ 31) : Op.lookupswitch.offset (#[(98, a1), (99, a2), (103, a3), (112, a4), (115, a5), (121, a6)] : Array (Int × Int)).toList df (oI o).toInt = df := by
  have hz : ∃ z : Int, (oI o).toInt = z ∧ z ≠ 98 ∧ z ≠ 99 ∧ z ≠ 103 ∧ z ≠ 112 ∧ z ≠ 115 ∧ z ≠ 121 := by
    cases o with
    | none => exact ⟨-1, rfl, by decide, by decide, by decide, by decide, by decide, by decide⟩
    | some s => exact ⟨s, nI_toInt (hx s rfl), fun z => a (by congr 1; omega), fun z => b (by congr 1; omega), fun z => c (by congr 1; omega), fun z => d (by congr 1; omega), fun z => e (by congr 1; omega), fun z => f (by congr 1; omega)⟩
  obtain ⟨z, ez, b1, b2, b3, b4, b5, b6⟩ := hz
  rw [ez]
  have c1 := Ne.symm b1
  have c2 := Ne.symm b2
  have c3 := Ne.symm b3
  have c4 := Ne.symm b4
  have c5 := Ne.symm b5
  have c6 := Ne.symm b6
  simp [Op.lookupswitch.offset, b1, b2, b3, b4, b5, b6, c1, c2, c3, c4, c5, c6]
theorem lks_X5_obeys {o : Option Nat} (a : ¬ o = some 98) (b : ¬ o = some 99) (c : ¬ o = some 103) (d : ¬ o = some 112) (e : ¬ o = some 115) (f : ¬ o = some 121) (hx : ∀ s, o = some s → s < 2 ^ 31) : Op.lookupswitch.offset (#[(98, 130), (99, 90), (103, 73), (112, 59), (115, 141), (121, 113)] : Array (Int × Int)).toList 152 (oI o).toInt = 152 := lks6 a b c d e f hx
def sObey (σ : St) (k : Option Nat) (tl : Nat → Nat) : St × Bool :=
  if k = some 112 then (sPerson σ (tl 0) (tl 1) (tl 2), sPersonOK σ (tl 0) (tl 1) (tl 2))
  else if k = some 103 then (sGive σ (tl 0) (tl 1) (tl 2) (tl 3), sGiveOK σ (tl 0) (tl 1) (tl 2) (tl 3))
  else if k = some 99 then (sCall σ (tl 0) (tl 1) (tl 2), (sCallW σ (tl 0) (tl 1) (tl 2)).isSome)
  else if k = some 121 then (sPass σ (tl 0), (sPassQ σ (tl 0)).isSome)
  else if k = some 98 then (sSit σ (tl 0) (tl 1), sSitOK σ (tl 0) (tl 1))
  else if k = some 115 then (sSet σ (tl 0) (tl 1), sSetOK (tl 0) (tl 1))
  else (σ, false)
theorem sObey_d {σ : St} {k : Option Nat} {tl : Nat → Nat} (a : ¬ k = some 98) (b : ¬ k = some 99) (c : ¬ k = some 103) (d : ¬ k = some 112) (e : ¬ k = some 115) (f : ¬ k = some 121) : sObey σ k tl = (σ, false) := by unfold sObey; rw [if_neg d, if_neg c, if_neg b, if_neg f, if_neg a, if_neg e]
theorem eIv.obey {σ : St} {T : Nat} {k : Option Nat} {tl : Nat → Nat} (h : eIv σ T) : eIv (sObey σ k tl).1 (T + 1) := by
  unfold sObey
  split
  · exact h.person.mono (Nat.le_succ T)
  split
  · exact h.give.mono (Nat.le_succ T)
  split
  · exact h.call
  split
  · exact h.pass.mono (Nat.le_succ T)
  split
  · exact h.sitting.mono (Nat.le_succ T)
  split
  · exact h.setting.mono (Nat.le_succ T)
  · exact h.mono (Nat.le_succ T)
/-- how many numbers a command of a kind tells -/
def tKn (k : Option Nat) : Nat := if k = some 112 then 3 else if k = some 103 then 4 else if k = some 99 then 3 else if k = some 121 then 1 else if k = some 98 then 2 else if k = some 115 then 2 else 0
theorem sObey_p {σ : St} {k : Option Nat} {tl : Nat → Nat} (h : k = some 112) : sObey σ k tl = (sPerson σ (tl 0) (tl 1) (tl 2), sPersonOK σ (tl 0) (tl 1) (tl 2)) := by subst h; rfl
theorem tKn_p {k : Option Nat} (h : k = some 112) : tKn k = 3 := by subst h; rfl
theorem sObey_g {σ : St} {k : Option Nat} {tl : Nat → Nat} (h : k = some 103) : sObey σ k tl = (sGive σ (tl 0) (tl 1) (tl 2) (tl 3), sGiveOK σ (tl 0) (tl 1) (tl 2) (tl 3)) := by subst h; rfl
theorem tKn_g {k : Option Nat} (h : k = some 103) : tKn k = 4 := by subst h; rfl
theorem sObey_c {σ : St} {k : Option Nat} {tl : Nat → Nat} (h : k = some 99) : sObey σ k tl = (sCall σ (tl 0) (tl 1) (tl 2), (sCallW σ (tl 0) (tl 1) (tl 2)).isSome) := by subst h; rfl
theorem tKn_c {k : Option Nat} (h : k = some 99) : tKn k = 3 := by subst h; rfl
theorem sObey_y {σ : St} {k : Option Nat} {tl : Nat → Nat} (h : k = some 121) : sObey σ k tl = (sPass σ (tl 0), (sPassQ σ (tl 0)).isSome) := by subst h; rfl
theorem tKn_y {k : Option Nat} (h : k = some 121) : tKn k = 1 := by subst h; rfl
theorem sObey_b {σ : St} {k : Option Nat} {tl : Nat → Nat} (h : k = some 98) : sObey σ k tl = (sSit σ (tl 0) (tl 1), sSitOK σ (tl 0) (tl 1)) := by subst h; rfl
theorem tKn_b {k : Option Nat} (h : k = some 98) : tKn k = 2 := by subst h; rfl
theorem sObey_s {σ : St} {k : Option Nat} {tl : Nat → Nat} (h : k = some 115) : sObey σ k tl = (sSet σ (tl 0) (tl 1), sSetOK (tl 0) (tl 1)) := by subst h; rfl
theorem tKn_s {k : Option Nat} (h : k = some 115) : tKn k = 2 := by subst h; rfl
theorem sPassQ_b {σ : St} {T n k : Nat} (hI : eIv σ T) (h : sPassQ σ n = some k) : k < 2 ^ 31 := by
  unfold sPassQ at h
  split at h
  · rename_i q
    cases h
    have := of_decide_eq_true q
    have := sYearsN_lt hI (n := n) (by omega)
    omega
  · cases h
set_option maxHeartbeats 4000000 in
set_option maxRecDepth 20000 in
theorem c_X5_obeys {h : eH} {n r T q : Nat} {σ : St} {x : Nat → Nat} {ℓ : Nat} {k : Option Nat} {u : Cur} (hR : eRg h r σ) (hI : eIv σ T) (hT : T < 2 ^ 30) (hX : eTx h q x ℓ k u) (t4 : ∀ s, k = some s → s < 2 ^ 31) (hc : tKn k ≤ u.2.1) (hs : ∀ j, u.2.2 j < 2 ^ 30) : kX5_obeys [.ref r, .ref q] h n (.inl (some (.int (bI (sObey σ k u.2.2).2))), (fun g => eRg g r (sObey σ k u.2.2).1 ∧ eFr h g r (r + 17)), some n) 0 0 := by
  refine eM.of RX5 "obeys" [(0, .ref r), (1, .ref q)] pn_X5 rfl rfl (Nat.le_of_ble_eq_true rfl) rfl ?_
  have FR : eFr h h r (r + 17) := eFr.rf
  obtain ⟨t0, t1, t2, t3, -⟩ := id hX
  have hs0 := hs 0
  have hs1 := hs 1
  have hs2 := hs 2
  have hs3 := hs 3
  refine ev_aload_n dX5_obeys_0 rfl rfl ?_
  refine ev_getfield dX5_obeys_1 fl_X5_200 (by first | assumption | omega | exact ePp.ob (by assumption) | exact eNm.ob (by assumption) | exact eRg.ob (by assumption) | exact eTx.ob (by assumption)) rfl ?_
  refine ev_astore_n dX5_obeys_4 rfl (Nat.le_of_ble_eq_true rfl) ?_
  refine ev_aload_n dX5_obeys_5 rfl rfl ?_
  refine ev_getfield dX5_obeys_6 fl_X5_205 (by first | assumption | omega | exact ePp.ob (by assumption) | exact eNm.ob (by assumption) | exact eRg.ob (by assumption) | exact eTx.ob (by assumption)) rfl ?_
  by_cases z_9_98 : k = some 98
  · refine ev_lookup (off := 130) (tgt := 139) dX5_obeys_9 (by decide +kernel) (by rw [z_9_98]; decide +kernel) (by decide) ?_
    have hkn := tKn_b z_9_98
    refine ev_aload_n dX5_obeys_139 rfl rfl ?_
    refine ev_aload_n dX5_obeys_140 rfl rfl ?_
    refine ev_iconst (v := nI 0) dX5_obeys_141 rfl ?_
    refine ev_ialoadA dX5_obeys_142 (by first | assumption | omega | exact ePp.ob (by assumption) | exact eNm.ob (by assumption) | exact eRg.ob (by assumption) | exact eTx.ob (by assumption)) (by first | assumption | omega | exact ePp.ob (by assumption) | exact eNm.ob (by assumption) | exact eRg.ob (by assumption) | exact eTx.ob (by assumption)) ?_
    refine ev_aload_n dX5_obeys_143 rfl rfl ?_
    refine ev_iconst (v := nI 1) dX5_obeys_144 rfl ?_
    refine ev_ialoadA dX5_obeys_145 (by first | assumption | omega | exact ePp.ob (by assumption) | exact eNm.ob (by assumption) | exact eRg.ob (by assumption) | exact eTx.ob (by assumption)) (by first | assumption | omega | exact ePp.ob (by assumption) | exact eNm.ob (by assumption) | exact eRg.ob (by assumption) | exact eTx.ob (by assumption)) ?_
    refine ev_callVi dX5_obeys_146 (c_X5_triesSitting hR hI hT (by omega) (by omega)) rfl lk_X5_220 (by first | assumption | omega | exact ePp.ob (by assumption) | exact eNm.ob (by assumption) | exact eRg.ob (by assumption) | exact eTx.ob (by assumption)) ⟨Nat.le_of_ble_eq_true rfl, Nat.le_of_ble_eq_true rfl⟩ rfl (Nat.le_of_ble_eq_true rfl) ⟨Nat.le_of_ble_eq_true rfl, Nat.le_of_ble_eq_true rfl⟩ (fun g_146 hg_146 => ?_)
    obtain ⟨w_146, fr_146⟩ := hg_146
    replace hR := w_146
    first | replace FR := eFr.trans FR (eFr.one fr_146 (by omega) (by omega)) | replace FR := eFr.trans FR (eFr.wide fr_146 (by omega) (by omega))
    exact ev_iret dX5_obeys_149 rfl (by first | rfl | exact bI_n _) (by rw [sObey_b z_9_98]) (by exact ⟨by rw [sObey_b z_9_98]; exact hR, FR⟩) (fun _ e => Option.some.inj e) (Nat.le_of_ble_eq_true rfl) (Nat.le_of_ble_eq_true rfl)
  by_cases z_9_99 : k = some 99
  · refine ev_lookup (off := 90) (tgt := 99) dX5_obeys_9 (by decide +kernel) (by rw [z_9_99]; decide +kernel) (by decide) ?_
    have hkn := tKn_c z_9_99
    refine ev_aload_n dX5_obeys_99 rfl rfl ?_
    refine ev_aload_n dX5_obeys_100 rfl rfl ?_
    refine ev_iconst (v := nI 0) dX5_obeys_101 rfl ?_
    refine ev_ialoadA dX5_obeys_102 (by first | assumption | omega | exact ePp.ob (by assumption) | exact eNm.ob (by assumption) | exact eRg.ob (by assumption) | exact eTx.ob (by assumption)) (by first | assumption | omega | exact ePp.ob (by assumption) | exact eNm.ob (by assumption) | exact eRg.ob (by assumption) | exact eTx.ob (by assumption)) ?_
    refine ev_aload_n dX5_obeys_103 rfl rfl ?_
    refine ev_iconst (v := nI 1) dX5_obeys_104 rfl ?_
    refine ev_ialoadA dX5_obeys_105 (by first | assumption | omega | exact ePp.ob (by assumption) | exact eNm.ob (by assumption) | exact eRg.ob (by assumption) | exact eTx.ob (by assumption)) (by first | assumption | omega | exact ePp.ob (by assumption) | exact eNm.ob (by assumption) | exact eRg.ob (by assumption) | exact eTx.ob (by assumption)) ?_
    refine ev_aload_n dX5_obeys_106 rfl rfl ?_
    refine ev_iconst (v := nI 2) dX5_obeys_107 rfl ?_
    refine ev_ialoadA dX5_obeys_108 (by first | assumption | omega | exact ePp.ob (by assumption) | exact eNm.ob (by assumption) | exact eRg.ob (by assumption) | exact eTx.ob (by assumption)) (by first | assumption | omega | exact ePp.ob (by assumption) | exact eNm.ob (by assumption) | exact eRg.ob (by assumption) | exact eTx.ob (by assumption)) ?_
    refine ev_callVi dX5_obeys_109 (c_X5_callFor hR hI hT (by omega) (by omega) (by omega)) rfl lk_X5_214 (by first | assumption | omega | exact ePp.ob (by assumption) | exact eNm.ob (by assumption) | exact eRg.ob (by assumption) | exact eTx.ob (by assumption)) ⟨Nat.le_of_ble_eq_true rfl, Nat.le_of_ble_eq_true rfl⟩ rfl (Nat.le_of_ble_eq_true rfl) ⟨Nat.le_of_ble_eq_true rfl, Nat.le_of_ble_eq_true rfl⟩ (fun g_109 hg_109 => ?_)
    obtain ⟨w_109, fr_109⟩ := hg_109
    replace hR := w_109
    first | replace FR := eFr.trans FR (eFr.one fr_109 (by omega) (by omega)) | replace FR := eFr.trans FR (eFr.wide fr_109 (by omega) (by omega))
    refine ev_iconst (v := -1) dX5_obeys_112 (by decide) ?_
    first | ((with_reducible show eV _ _ _ (Value.int (nI _) :: Value.int (nI _) :: _) _ _ _ _); refine ev_icmp_eqN (tgt := 120) dX5_obeys_113 (by decide) (by first | exact hB _ _ | omega) (by first | exact hB _ _ | omega) (fun c_113 => ?_) (fun c_113 => ?_)) | ((with_reducible show eV _ _ _ (Value.int (-1) :: Value.int (oI _) :: _) _ _ _ _); refine ev_icmp_eqO (tgt := 120) dX5_obeys_113 (by decide) (by first | assumption | (intro k9 h9; have := sCallW_lt h9; have := hI.1.1; omega) | (intro k9 h9; exact sPassQ_b hI h9)) (fun c_113 => ?_) (fun c_113 => ?_)) | ((with_reducible show eV _ _ _ (Value.int (oI _) :: Value.int (nI _) :: _) _ _ _ _); refine ev_icmp_eqNO (tgt := 120) dX5_obeys_113 (by decide) (by first | exact hB _ _ | omega) (by first | assumption | (intro k9 h9; have := sCallW_lt h9; have := hI.1.1; omega) | (intro k9 h9; exact sPassQ_b hI h9)) (fun c_113 => ?_) (fun c_113 => ?_)) | ((with_reducible show eV _ _ _ (Value.int (nI _) :: Value.int (oI _) :: _) _ _ _ _); refine ev_icmp_eqON (tgt := 120) dX5_obeys_113 (by decide) (by first | exact hB _ _ | omega) (by first | assumption | (intro k9 h9; have := sCallW_lt h9; have := hI.1.1; omega) | (intro k9 h9; exact sPassQ_b hI h9)) (fun c_113 => ?_) (fun c_113 => ?_)) | ((with_reducible show eV _ _ _ (Value.int (nI _) :: _) _ _ _ _); refine ev_icmp_eqZN (tgt := 120) dX5_obeys_113 (by decide) (by first | exact hB _ _ | omega) (fun c_113 => ?_) (fun c_113 => ?_)) | ((with_reducible show eV _ _ _ (_ :: Value.int (nI _) :: _) _ _ _ _); refine ev_icmp_eqNZ (tgt := 120) dX5_obeys_113 (by decide) (by first | exact hB _ _ | omega) (fun c_113 => ?_) (fun c_113 => ?_)) | (refine ev_icmp_eqZZ (tgt := 120) dX5_obeys_113 (by decide) (fun c_113 => ?_) (fun c_113 => ?_))
    · refine ev_iconst (v := nI 0) dX5_obeys_120 rfl ?_
      exact ev_iret dX5_obeys_121 rfl (by first | rfl | exact bI_n _) (by rw [sObey_c z_9_99]; first | exact bR0 (by rw [c_113]; rfl) | exact bR1 (Option.isSome_iff_ne_none.mpr c_113)) (by exact ⟨by rw [sObey_c z_9_99]; exact hR, FR⟩) (fun _ e => Option.some.inj e) (Nat.le_of_ble_eq_true rfl) (Nat.le_of_ble_eq_true rfl)
    · refine ev_iconst (v := nI 1) dX5_obeys_116 rfl ?_
      refine ev_goto (tgt := 121) dX5_obeys_117 (by decide) ?_
      exact ev_iret dX5_obeys_121 rfl (by first | rfl | exact bI_n _) (by rw [sObey_c z_9_99]; first | exact bR0 (by rw [c_113]; rfl) | exact bR1 (Option.isSome_iff_ne_none.mpr c_113)) (by exact ⟨by rw [sObey_c z_9_99]; exact hR, FR⟩) (fun _ e => Option.some.inj e) (Nat.le_of_ble_eq_true rfl) (Nat.le_of_ble_eq_true rfl)
  by_cases z_9_103 : k = some 103
  · refine ev_lookup (off := 73) (tgt := 82) dX5_obeys_9 (by decide +kernel) (by rw [z_9_103]; decide +kernel) (by decide) ?_
    have hkn := tKn_g z_9_103
    refine ev_aload_n dX5_obeys_82 rfl rfl ?_
    refine ev_aload_n dX5_obeys_83 rfl rfl ?_
    refine ev_iconst (v := nI 0) dX5_obeys_84 rfl ?_
    refine ev_ialoadA dX5_obeys_85 (by first | assumption | omega | exact ePp.ob (by assumption) | exact eNm.ob (by assumption) | exact eRg.ob (by assumption) | exact eTx.ob (by assumption)) (by first | assumption | omega | exact ePp.ob (by assumption) | exact eNm.ob (by assumption) | exact eRg.ob (by assumption) | exact eTx.ob (by assumption)) ?_
    refine ev_aload_n dX5_obeys_86 rfl rfl ?_
    refine ev_iconst (v := nI 1) dX5_obeys_87 rfl ?_
    refine ev_ialoadA dX5_obeys_88 (by first | assumption | omega | exact ePp.ob (by assumption) | exact eNm.ob (by assumption) | exact eRg.ob (by assumption) | exact eTx.ob (by assumption)) (by first | assumption | omega | exact ePp.ob (by assumption) | exact eNm.ob (by assumption) | exact eRg.ob (by assumption) | exact eTx.ob (by assumption)) ?_
    refine ev_aload_n dX5_obeys_89 rfl rfl ?_
    refine ev_iconst (v := nI 2) dX5_obeys_90 rfl ?_
    refine ev_ialoadA dX5_obeys_91 (by first | assumption | omega | exact ePp.ob (by assumption) | exact eNm.ob (by assumption) | exact eRg.ob (by assumption) | exact eTx.ob (by assumption)) (by first | assumption | omega | exact ePp.ob (by assumption) | exact eNm.ob (by assumption) | exact eRg.ob (by assumption) | exact eTx.ob (by assumption)) ?_
    refine ev_aload_n dX5_obeys_92 rfl rfl ?_
    refine ev_iconst (v := nI 3) dX5_obeys_93 rfl ?_
    refine ev_ialoadA dX5_obeys_94 (by first | assumption | omega | exact ePp.ob (by assumption) | exact eNm.ob (by assumption) | exact eRg.ob (by assumption) | exact eTx.ob (by assumption)) (by first | assumption | omega | exact ePp.ob (by assumption) | exact eNm.ob (by assumption) | exact eRg.ob (by assumption) | exact eTx.ob (by assumption)) ?_
    refine ev_callVi dX5_obeys_95 (c_X5_triesGiving hR hI hT (by omega) (by omega) (by omega) (by omega)) rfl lk_X5_211 (by first | assumption | omega | exact ePp.ob (by assumption) | exact eNm.ob (by assumption) | exact eRg.ob (by assumption) | exact eTx.ob (by assumption)) ⟨Nat.le_of_ble_eq_true rfl, Nat.le_of_ble_eq_true rfl⟩ rfl (Nat.le_of_ble_eq_true rfl) ⟨Nat.le_of_ble_eq_true rfl, Nat.le_of_ble_eq_true rfl⟩ (fun g_95 hg_95 => ?_)
    obtain ⟨w_95, fr_95⟩ := hg_95
    replace hR := w_95
    first | replace FR := eFr.trans FR (eFr.one fr_95 (by omega) (by omega)) | replace FR := eFr.trans FR (eFr.wide fr_95 (by omega) (by omega))
    exact ev_iret dX5_obeys_98 rfl (by first | rfl | exact bI_n _) (by rw [sObey_g z_9_103]) (by exact ⟨by rw [sObey_g z_9_103]; exact hR, FR⟩) (fun _ e => Option.some.inj e) (Nat.le_of_ble_eq_true rfl) (Nat.le_of_ble_eq_true rfl)
  by_cases z_9_112 : k = some 112
  · refine ev_lookup (off := 59) (tgt := 68) dX5_obeys_9 (by decide +kernel) (by rw [z_9_112]; decide +kernel) (by decide) ?_
    have hkn := tKn_p z_9_112
    refine ev_aload_n dX5_obeys_68 rfl rfl ?_
    refine ev_aload_n dX5_obeys_69 rfl rfl ?_
    refine ev_iconst (v := nI 0) dX5_obeys_70 rfl ?_
    refine ev_ialoadA dX5_obeys_71 (by first | assumption | omega | exact ePp.ob (by assumption) | exact eNm.ob (by assumption) | exact eRg.ob (by assumption) | exact eTx.ob (by assumption)) (by first | assumption | omega | exact ePp.ob (by assumption) | exact eNm.ob (by assumption) | exact eRg.ob (by assumption) | exact eTx.ob (by assumption)) ?_
    refine ev_aload_n dX5_obeys_72 rfl rfl ?_
    refine ev_iconst (v := nI 1) dX5_obeys_73 rfl ?_
    refine ev_ialoadA dX5_obeys_74 (by first | assumption | omega | exact ePp.ob (by assumption) | exact eNm.ob (by assumption) | exact eRg.ob (by assumption) | exact eTx.ob (by assumption)) (by first | assumption | omega | exact ePp.ob (by assumption) | exact eNm.ob (by assumption) | exact eRg.ob (by assumption) | exact eTx.ob (by assumption)) ?_
    refine ev_aload_n dX5_obeys_75 rfl rfl ?_
    refine ev_iconst (v := nI 2) dX5_obeys_76 rfl ?_
    refine ev_ialoadA dX5_obeys_77 (by first | assumption | omega | exact ePp.ob (by assumption) | exact eNm.ob (by assumption) | exact eRg.ob (by assumption) | exact eTx.ob (by assumption)) (by first | assumption | omega | exact ePp.ob (by assumption) | exact eNm.ob (by assumption) | exact eRg.ob (by assumption) | exact eTx.ob (by assumption)) ?_
    refine ev_callVi dX5_obeys_78 (c_X5_triesPerson hR hI hT (by omega) (by omega) (by omega)) rfl lk_X5_208 (by first | assumption | omega | exact ePp.ob (by assumption) | exact eNm.ob (by assumption) | exact eRg.ob (by assumption) | exact eTx.ob (by assumption)) ⟨Nat.le_of_ble_eq_true rfl, Nat.le_of_ble_eq_true rfl⟩ rfl (Nat.le_of_ble_eq_true rfl) ⟨Nat.le_of_ble_eq_true rfl, Nat.le_of_ble_eq_true rfl⟩ (fun g_78 hg_78 => ?_)
    obtain ⟨w_78, fr_78⟩ := hg_78
    replace hR := w_78
    first | replace FR := eFr.trans FR (eFr.one fr_78 (by omega) (by omega)) | replace FR := eFr.trans FR (eFr.wide fr_78 (by omega) (by omega))
    exact ev_iret dX5_obeys_81 rfl (by first | rfl | exact bI_n _) (by rw [sObey_p z_9_112]) (by exact ⟨by rw [sObey_p z_9_112]; exact hR, FR⟩) (fun _ e => Option.some.inj e) (Nat.le_of_ble_eq_true rfl) (Nat.le_of_ble_eq_true rfl)
  by_cases z_9_115 : k = some 115
  · refine ev_lookup (off := 141) (tgt := 150) dX5_obeys_9 (by decide +kernel) (by rw [z_9_115]; decide +kernel) (by decide) ?_
    have hkn := tKn_s z_9_115
    refine ev_aload_n dX5_obeys_150 rfl rfl ?_
    refine ev_aload_n dX5_obeys_151 rfl rfl ?_
    refine ev_iconst (v := nI 0) dX5_obeys_152 rfl ?_
    refine ev_ialoadA dX5_obeys_153 (by first | assumption | omega | exact ePp.ob (by assumption) | exact eNm.ob (by assumption) | exact eRg.ob (by assumption) | exact eTx.ob (by assumption)) (by first | assumption | omega | exact ePp.ob (by assumption) | exact eNm.ob (by assumption) | exact eRg.ob (by assumption) | exact eTx.ob (by assumption)) ?_
    refine ev_aload_n dX5_obeys_154 rfl rfl ?_
    refine ev_iconst (v := nI 1) dX5_obeys_155 rfl ?_
    refine ev_ialoadA dX5_obeys_156 (by first | assumption | omega | exact ePp.ob (by assumption) | exact eNm.ob (by assumption) | exact eRg.ob (by assumption) | exact eTx.ob (by assumption)) (by first | assumption | omega | exact ePp.ob (by assumption) | exact eNm.ob (by assumption) | exact eRg.ob (by assumption) | exact eTx.ob (by assumption)) ?_
    refine ev_callVi dX5_obeys_157 (c_X5_triesSetting hR (by omega) (by omega)) rfl lk_X5_223 (by first | assumption | omega | exact ePp.ob (by assumption) | exact eNm.ob (by assumption) | exact eRg.ob (by assumption) | exact eTx.ob (by assumption)) ⟨Nat.le_of_ble_eq_true rfl, Nat.le_of_ble_eq_true rfl⟩ rfl (Nat.le_of_ble_eq_true rfl) ⟨Nat.le_of_ble_eq_true rfl, Nat.le_of_ble_eq_true rfl⟩ (fun g_157 hg_157 => ?_)
    obtain ⟨w_157, fr_157⟩ := hg_157
    replace hR := w_157
    first | replace FR := eFr.trans FR (eFr.one fr_157 (by omega) (by omega)) | replace FR := eFr.trans FR (eFr.wide fr_157 (by omega) (by omega))
    exact ev_iret dX5_obeys_160 rfl (by first | rfl | exact bI_n _) (by rw [sObey_s z_9_115]) (by exact ⟨by rw [sObey_s z_9_115]; exact hR, FR⟩) (fun _ e => Option.some.inj e) (Nat.le_of_ble_eq_true rfl) (Nat.le_of_ble_eq_true rfl)
  by_cases z_9_121 : k = some 121
  · refine ev_lookup (off := 113) (tgt := 122) dX5_obeys_9 (by decide +kernel) (by rw [z_9_121]; decide +kernel) (by decide) ?_
    have hkn := tKn_y z_9_121
    refine ev_aload_n dX5_obeys_122 rfl rfl ?_
    refine ev_aload_n dX5_obeys_123 rfl rfl ?_
    refine ev_iconst (v := nI 0) dX5_obeys_124 rfl ?_
    refine ev_ialoadA dX5_obeys_125 (by first | assumption | omega | exact ePp.ob (by assumption) | exact eNm.ob (by assumption) | exact eRg.ob (by assumption) | exact eTx.ob (by assumption)) (by first | assumption | omega | exact ePp.ob (by assumption) | exact eNm.ob (by assumption) | exact eRg.ob (by assumption) | exact eTx.ob (by assumption)) ?_
    refine ev_callVi dX5_obeys_126 (c_X5_passYears hR hI hT (by omega)) rfl lk_X5_217 (by first | assumption | omega | exact ePp.ob (by assumption) | exact eNm.ob (by assumption) | exact eRg.ob (by assumption) | exact eTx.ob (by assumption)) ⟨Nat.le_of_ble_eq_true rfl, Nat.le_of_ble_eq_true rfl⟩ rfl (Nat.le_of_ble_eq_true rfl) ⟨Nat.le_of_ble_eq_true rfl, Nat.le_of_ble_eq_true rfl⟩ (fun g_126 hg_126 => ?_)
    obtain ⟨w_126, fr_126⟩ := hg_126
    replace hR := w_126
    first | replace FR := eFr.trans FR (eFr.one fr_126 (by omega) (by omega)) | replace FR := eFr.trans FR (eFr.wide fr_126 (by omega) (by omega))
    refine ev_iconst (v := -1) dX5_obeys_129 (by decide) ?_
    first | ((with_reducible show eV _ _ _ (Value.int (nI _) :: Value.int (nI _) :: _) _ _ _ _); refine ev_icmp_eqN (tgt := 137) dX5_obeys_130 (by decide) (by first | exact hB _ _ | omega) (by first | exact hB _ _ | omega) (fun c_130 => ?_) (fun c_130 => ?_)) | ((with_reducible show eV _ _ _ (Value.int (-1) :: Value.int (oI _) :: _) _ _ _ _); refine ev_icmp_eqO (tgt := 137) dX5_obeys_130 (by decide) (by first | assumption | (intro k9 h9; have := sCallW_lt h9; have := hI.1.1; omega) | (intro k9 h9; exact sPassQ_b hI h9)) (fun c_130 => ?_) (fun c_130 => ?_)) | ((with_reducible show eV _ _ _ (Value.int (oI _) :: Value.int (nI _) :: _) _ _ _ _); refine ev_icmp_eqNO (tgt := 137) dX5_obeys_130 (by decide) (by first | exact hB _ _ | omega) (by first | assumption | (intro k9 h9; have := sCallW_lt h9; have := hI.1.1; omega) | (intro k9 h9; exact sPassQ_b hI h9)) (fun c_130 => ?_) (fun c_130 => ?_)) | ((with_reducible show eV _ _ _ (Value.int (nI _) :: Value.int (oI _) :: _) _ _ _ _); refine ev_icmp_eqON (tgt := 137) dX5_obeys_130 (by decide) (by first | exact hB _ _ | omega) (by first | assumption | (intro k9 h9; have := sCallW_lt h9; have := hI.1.1; omega) | (intro k9 h9; exact sPassQ_b hI h9)) (fun c_130 => ?_) (fun c_130 => ?_)) | ((with_reducible show eV _ _ _ (Value.int (nI _) :: _) _ _ _ _); refine ev_icmp_eqZN (tgt := 137) dX5_obeys_130 (by decide) (by first | exact hB _ _ | omega) (fun c_130 => ?_) (fun c_130 => ?_)) | ((with_reducible show eV _ _ _ (_ :: Value.int (nI _) :: _) _ _ _ _); refine ev_icmp_eqNZ (tgt := 137) dX5_obeys_130 (by decide) (by first | exact hB _ _ | omega) (fun c_130 => ?_) (fun c_130 => ?_)) | (refine ev_icmp_eqZZ (tgt := 137) dX5_obeys_130 (by decide) (fun c_130 => ?_) (fun c_130 => ?_))
    · refine ev_iconst (v := nI 0) dX5_obeys_137 rfl ?_
      exact ev_iret dX5_obeys_138 rfl (by first | rfl | exact bI_n _) (by rw [sObey_y z_9_121]; first | exact bR0 (by rw [c_130]; rfl) | exact bR1 (Option.isSome_iff_ne_none.mpr c_130)) (by exact ⟨by rw [sObey_y z_9_121]; exact hR, FR⟩) (fun _ e => Option.some.inj e) (Nat.le_of_ble_eq_true rfl) (Nat.le_of_ble_eq_true rfl)
    · refine ev_iconst (v := nI 1) dX5_obeys_133 rfl ?_
      refine ev_goto (tgt := 138) dX5_obeys_134 (by decide) ?_
      exact ev_iret dX5_obeys_138 rfl (by first | rfl | exact bI_n _) (by rw [sObey_y z_9_121]; first | exact bR0 (by rw [c_130]; rfl) | exact bR1 (Option.isSome_iff_ne_none.mpr c_130)) (by exact ⟨by rw [sObey_y z_9_121]; exact hR, FR⟩) (fun _ e => Option.some.inj e) (Nat.le_of_ble_eq_true rfl) (Nat.le_of_ble_eq_true rfl)
  refine ev_lookup (off := 152) (tgt := 161) dX5_obeys_9 (by decide +kernel) (lks_X5_obeys z_9_98 z_9_99 z_9_103 z_9_112 z_9_115 z_9_121 t4) (by decide) ?_
  refine ev_iconst (v := nI 0) dX5_obeys_161 rfl ?_
  exact ev_iret dX5_obeys_162 rfl (by first | rfl | exact bI_n _) (by rw [sObey_d z_9_98 z_9_99 z_9_103 z_9_112 z_9_115 z_9_121]; rfl) (by exact ⟨by rw [sObey_d z_9_98 z_9_99 z_9_103 z_9_112 z_9_115 z_9_121]; exact hR, FR⟩) (fun _ e => Option.some.inj e) (Nat.le_of_ble_eq_true rfl) (Nat.le_of_ble_eq_true rfl)

