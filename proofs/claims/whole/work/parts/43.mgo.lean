set_option maxHeartbeats 4000000 in
set_option maxRecDepth 20000 in
theorem c_X11_add {h : eH} {n a g p m c : Nat} {σ : St} (hA : eRow h a σ) (hlt : σ 0 1 < 40) : kX11_add [.ref a, .int (nI g), .int (nI p), .int (nI m), .int (nI c)] h n (.inl none, (fun g' => eRow g' a (sAddN σ g p m c (σ 0 2)) ∧ eFr h g' a (a + 1)), some n) 0 0 := by
  refine eM.of RX11 "add" [(0, .ref a), (1, .int (nI g)), (2, .int (nI p)), (3, .int (nI m)), (4, .int (nI c))] pn_X11 rfl rfl (Nat.le_of_ble_eq_true rfl) rfl ?_
  have FR : eFr h h a (a + 1) := eFr.rf
  refine ev_aload_n dX11_add_0 rfl rfl ?_
  refine ev_sipush (v := nI 381) dX11_add_1 rfl ?_
  first | refine ev_rowG (f := 0) (j := 1) dX11_add_4 (by assumption) (Nat.le_of_ble_eq_true rfl) (fun _ => rfl) ?_ | refine ev_ialoadA dX11_add_4 (by first | assumption | omega | exact ePp.ob (by assumption) | exact eNm.ob (by assumption) | exact eRg.ob (by assumption) | exact eTx.ob (by assumption) | exact ePa.ob (by assumption)) (by first | assumption | omega | exact ePp.ob (by assumption) | exact eNm.ob (by assumption) | exact eRg.ob (by assumption) | exact eTx.ob (by assumption) | exact ePa.ob (by assumption)) ?_
  refine ev_callSi dX11_add_5 c_X11_spot lk_X11_61 ⟨Nat.le_of_ble_eq_true rfl, Nat.le_of_ble_eq_true rfl⟩ rfl (Nat.le_of_ble_eq_true rfl) ⟨by first | exact Nat.le_of_ble_eq_true rfl | omega, by first | exact Nat.le_of_ble_eq_true rfl | omega⟩ (eRo ?_)
  refine ev_istore dX11_add_8 (Nat.le_of_ble_eq_true rfl) ?_
  refine ev_aload_n dX11_add_10 rfl rfl ?_
  refine ev_iload dX11_add_11 rfl ?_
  refine ev_iconst (v := nI 0) dX11_add_13 rfl ?_
  first | refine ev_iaddN dX11_add_14 ?_ | refine ev_iadd dX11_add_14 ?_
  refine ev_iload_n dX11_add_15 rfl rfl ?_
  first | refine ev_rowsetN (f := 0) (F := 6) dX11_add_16 (by assumption) (by first | assumption | omega | exact ePp.ob (by assumption) | exact eNm.ob (by assumption) | exact eRg.ob (by assumption) | exact eTx.ob (by assumption) | exact ePa.ob (by assumption)) (by decide) rfl (fun g_16 fr_16 w_16 => ?_) | refine ev_rowsetP (f := 0) (F := 1) dX11_add_16 (by assumption) (by first | assumption | omega | exact ePp.ob (by assumption) | exact eNm.ob (by assumption) | exact eRg.ob (by assumption) | exact eTx.ob (by assumption) | exact ePa.ob (by assumption)) (by decide) rfl (fun g_16 fr_16 w_16 => ?_)
  replace hA := w_16
  first | replace FR := eFr.trans FR (eFr.one fr_16 (by omega) (by omega)) | replace FR := eFr.trans FR (eFr.wide fr_16 (by omega) (by omega))
  refine ev_aload_n dX11_add_17 rfl rfl ?_
  refine ev_iload dX11_add_18 rfl ?_
  refine ev_iconst (v := nI 1) dX11_add_20 rfl ?_
  first | refine ev_iaddN dX11_add_21 ?_ | refine ev_iadd dX11_add_21 ?_
  refine ev_iload dX11_add_22 rfl ?_
  first | refine ev_rowsetN (f := 1) (F := 7) dX11_add_24 (by assumption) (by first | assumption | omega | exact ePp.ob (by assumption) | exact eNm.ob (by assumption) | exact eRg.ob (by assumption) | exact eTx.ob (by assumption) | exact ePa.ob (by assumption)) (by decide) rfl (fun g_24 fr_24 w_24 => ?_) | refine ev_rowsetP (f := 1) (F := 2) dX11_add_24 (by assumption) (by first | assumption | omega | exact ePp.ob (by assumption) | exact eNm.ob (by assumption) | exact eRg.ob (by assumption) | exact eTx.ob (by assumption) | exact ePa.ob (by assumption)) (by decide) rfl (fun g_24 fr_24 w_24 => ?_)
  replace hA := w_24
  first | replace FR := eFr.trans FR (eFr.one fr_24 (by omega) (by omega)) | replace FR := eFr.trans FR (eFr.wide fr_24 (by omega) (by omega))
  refine ev_aload_n dX11_add_25 rfl rfl ?_
  refine ev_iload dX11_add_26 rfl ?_
  refine ev_iconst (v := nI 2) dX11_add_28 rfl ?_
  first | refine ev_iaddN dX11_add_29 ?_ | refine ev_iadd dX11_add_29 ?_
  refine ev_iload_n dX11_add_30 rfl rfl ?_
  first | refine ev_rowsetN (f := 2) (F := 8) dX11_add_31 (by assumption) (by first | assumption | omega | exact ePp.ob (by assumption) | exact eNm.ob (by assumption) | exact eRg.ob (by assumption) | exact eTx.ob (by assumption) | exact ePa.ob (by assumption)) (by decide) rfl (fun g_31 fr_31 w_31 => ?_) | refine ev_rowsetP (f := 2) (F := 3) dX11_add_31 (by assumption) (by first | assumption | omega | exact ePp.ob (by assumption) | exact eNm.ob (by assumption) | exact eRg.ob (by assumption) | exact eTx.ob (by assumption) | exact ePa.ob (by assumption)) (by decide) rfl (fun g_31 fr_31 w_31 => ?_)
  replace hA := w_31
  first | replace FR := eFr.trans FR (eFr.one fr_31 (by omega) (by omega)) | replace FR := eFr.trans FR (eFr.wide fr_31 (by omega) (by omega))
  refine ev_aload_n dX11_add_32 rfl rfl ?_
  refine ev_iload dX11_add_33 rfl ?_
  refine ev_iconst (v := nI 3) dX11_add_35 rfl ?_
  first | refine ev_iaddN dX11_add_36 ?_ | refine ev_iadd dX11_add_36 ?_
  refine ev_iload_n dX11_add_37 rfl rfl ?_
  first | refine ev_rowsetN (f := 3) (F := 9) dX11_add_38 (by assumption) (by first | assumption | omega | exact ePp.ob (by assumption) | exact eNm.ob (by assumption) | exact eRg.ob (by assumption) | exact eTx.ob (by assumption) | exact ePa.ob (by assumption)) (by decide) rfl (fun g_38 fr_38 w_38 => ?_) | refine ev_rowsetP (f := 3) (F := 4) dX11_add_38 (by assumption) (by first | assumption | omega | exact ePp.ob (by assumption) | exact eNm.ob (by assumption) | exact eRg.ob (by assumption) | exact eTx.ob (by assumption) | exact ePa.ob (by assumption)) (by decide) rfl (fun g_38 fr_38 w_38 => ?_)
  replace hA := w_38
  first | replace FR := eFr.trans FR (eFr.one fr_38 (by omega) (by omega)) | replace FR := eFr.trans FR (eFr.wide fr_38 (by omega) (by omega))
  refine ev_aload_n dX11_add_39 rfl rfl ?_
  refine ev_iload dX11_add_40 rfl ?_
  refine ev_iconst (v := nI 4) dX11_add_42 rfl ?_
  first | refine ev_iaddN dX11_add_43 ?_ | refine ev_iadd dX11_add_43 ?_
  refine ev_iconst (v := nI 0) dX11_add_44 rfl ?_
  first | refine ev_rowsetN (f := 4) (F := 10) dX11_add_45 (by assumption) (by first | assumption | omega | exact ePp.ob (by assumption) | exact eNm.ob (by assumption) | exact eRg.ob (by assumption) | exact eTx.ob (by assumption) | exact ePa.ob (by assumption)) (by decide) rfl (fun g_45 fr_45 w_45 => ?_) | refine ev_rowsetP (f := 4) (F := 5) dX11_add_45 (by assumption) (by first | assumption | omega | exact ePp.ob (by assumption) | exact eNm.ob (by assumption) | exact eRg.ob (by assumption) | exact eTx.ob (by assumption) | exact ePa.ob (by assumption)) (by decide) rfl (fun g_45 fr_45 w_45 => ?_)
  replace hA := w_45
  first | replace FR := eFr.trans FR (eFr.one fr_45 (by omega) (by omega)) | replace FR := eFr.trans FR (eFr.wide fr_45 (by omega) (by omega))
  refine ev_aload_n dX11_add_46 rfl rfl ?_
  refine ev_iload dX11_add_47 rfl ?_
  refine ev_iconst (v := nI 5) dX11_add_49 rfl ?_
  first | refine ev_iaddN dX11_add_50 ?_ | refine ev_iadd dX11_add_50 ?_
  refine ev_aload_n dX11_add_51 rfl rfl ?_
  refine ev_sipush (v := nI 382) dX11_add_52 rfl ?_
  first | refine ev_rowG (f := 0) (j := 2) dX11_add_55 (by assumption) (Nat.le_of_ble_eq_true rfl) (fun _ => rfl) ?_ | refine ev_ialoadA dX11_add_55 (by first | assumption | omega | exact ePp.ob (by assumption) | exact eNm.ob (by assumption) | exact eRg.ob (by assumption) | exact eTx.ob (by assumption) | exact ePa.ob (by assumption)) (by first | assumption | omega | exact ePp.ob (by assumption) | exact eNm.ob (by assumption) | exact eRg.ob (by assumption) | exact eTx.ob (by assumption) | exact ePa.ob (by assumption)) ?_
  first | refine ev_rowsetN (f := 5) (F := 11) dX11_add_56 (by assumption) (by first | assumption | omega | exact ePp.ob (by assumption) | exact eNm.ob (by assumption) | exact eRg.ob (by assumption) | exact eTx.ob (by assumption) | exact ePa.ob (by assumption)) (by decide) rfl (fun g_56 fr_56 w_56 => ?_)
  replace hA := w_56
  first | replace FR := eFr.trans FR (eFr.one fr_56 (by omega) (by omega)) | replace FR := eFr.trans FR (eFr.wide fr_56 (by omega) (by omega))
  refine ev_aload_n dX11_add_57 rfl rfl ?_
  refine ev_iload dX11_add_58 rfl ?_
  refine ev_bipush (v := nI 6) dX11_add_60 rfl ?_
  first | refine ev_iaddN dX11_add_62 ?_ | refine ev_iadd dX11_add_62 ?_
  refine ev_iconst (v := nI 0) dX11_add_63 rfl ?_
  first | refine ev_rowsetN (f := 6) (F := 12) dX11_add_64 (by assumption) (by first | assumption | omega | exact ePp.ob (by assumption) | exact eNm.ob (by assumption) | exact eRg.ob (by assumption) | exact eTx.ob (by assumption) | exact ePa.ob (by assumption)) (by decide) rfl (fun g_64 fr_64 w_64 => ?_)
  replace hA := w_64
  first | replace FR := eFr.trans FR (eFr.one fr_64 (by omega) (by omega)) | replace FR := eFr.trans FR (eFr.wide fr_64 (by omega) (by omega))
  refine ev_aload_n dX11_add_65 rfl rfl ?_
  refine ev_iload dX11_add_66 rfl ?_
  refine ev_bipush (v := nI 7) dX11_add_68 rfl ?_
  first | refine ev_iaddN dX11_add_70 ?_ | refine ev_iadd dX11_add_70 ?_
  refine ev_iconst (v := nI 0) dX11_add_71 rfl ?_
  first | refine ev_rowsetN (f := 7) (F := 13) dX11_add_72 (by assumption) (by first | assumption | omega | exact ePp.ob (by assumption) | exact eNm.ob (by assumption) | exact eRg.ob (by assumption) | exact eTx.ob (by assumption) | exact ePa.ob (by assumption)) (by decide) rfl (fun g_72 fr_72 w_72 => ?_)
  replace hA := w_72
  first | replace FR := eFr.trans FR (eFr.one fr_72 (by omega) (by omega)) | replace FR := eFr.trans FR (eFr.wide fr_72 (by omega) (by omega))
  refine ev_aload_n dX11_add_73 rfl rfl ?_
  refine ev_sipush (v := nI 381) dX11_add_74 rfl ?_
  refine ev_dup2 dX11_add_77 rfl rfl ?_
  first | refine ev_rowG (f := 0) (j := 1) dX11_add_78 (by assumption) (Nat.le_of_ble_eq_true rfl) (fun _ => rfl) ?_ | refine ev_ialoadA dX11_add_78 (by first | assumption | omega | exact ePp.ob (by assumption) | exact eNm.ob (by assumption) | exact eRg.ob (by assumption) | exact eTx.ob (by assumption) | exact ePa.ob (by assumption)) (by first | assumption | omega | exact ePp.ob (by assumption) | exact eNm.ob (by assumption) | exact eRg.ob (by assumption) | exact eTx.ob (by assumption) | exact ePa.ob (by assumption)) ?_
  refine ev_iconst (v := nI 1) dX11_add_79 rfl ?_
  first | refine ev_iaddN dX11_add_80 ?_ | refine ev_iadd dX11_add_80 ?_
  refine ev_rowsetG (f := 0) (j := 1) (i := 381) dX11_add_81 (by assumption) (Nat.le_of_ble_eq_true rfl) (rowF_g381 _) (fun g_81 fr_81 w_81 => ?_)
  replace hA := w_81
  first | replace FR := eFr.trans FR (eFr.one fr_81 (by omega) (by omega)) | replace FR := eFr.trans FR (eFr.wide fr_81 (by omega) (by omega))
  exact ev_vret dX11_add_82 rfl rfl (by exact ⟨hA, FR⟩) (fun _ e => Option.some.inj e) (Nat.le_of_ble_eq_true rfl) (Nat.le_of_ble_eq_true rfl)
set_option maxHeartbeats 4000000 in
set_option maxRecDepth 20000 in
theorem c_X11_goGive {h : eH} {n a g p m c : Nat} {σ : St} (hA : eRow h a σ) (hK : eOK σ) (hg : g < 12) (hp : p < 12) (hm : m < 2 ^ 31) (hc : c < 2 ^ 31) : kX11_goGive [.ref a, .int (nI g), .int (nI p), .int (nI m), .int (nI c)] h n (.inl (some (.int (nI (sWhy σ g p m c)))), (fun g' => eRow g' a (sGiveT σ g p m c) ∧ eFr h g' a (a + 1)), some n) 0 0 := by
  refine eM.of RX11 "goGive" [(0, .ref a), (1, .int (nI g)), (2, .int (nI p)), (3, .int (nI m)), (4, .int (nI c))] pn_X11 rfl rfl (Nat.le_of_ble_eq_true rfl) rfl ?_
  have FR : eFr h h a (a + 1) := eFr.rf
  refine ev_aload_n dX11_goGive_0 rfl rfl ?_
  refine ev_iload_n dX11_goGive_1 rfl rfl ?_
  refine ev_iload_n dX11_goGive_2 rfl rfl ?_
  refine ev_iload_n dX11_goGive_3 rfl rfl ?_
  refine ev_iload dX11_goGive_4 rfl ?_
  refine ev_callSi dX11_goGive_6 (c_X11_whyNot hA hK hg hp hm hc) lk_X11_87 ⟨Nat.le_of_ble_eq_true rfl, Nat.le_of_ble_eq_true rfl⟩ rfl (Nat.le_of_ble_eq_true rfl) ⟨by first | exact Nat.le_of_ble_eq_true rfl | omega, by first | exact Nat.le_of_ble_eq_true rfl | omega⟩ (eRo ?_)
  refine ev_istore dX11_goGive_9 (Nat.le_of_ble_eq_true rfl) ?_
  refine ev_iload dX11_goGive_11 rfl ?_
  first | ((with_reducible show eV _ _ _ (Value.int (bI _) :: _) _ _ _ _); refine ev_if_neB (tgt := 28) dX11_goGive_13 (by decide) (fun c_13 => ?_) (fun c_13 => ?_)) | ((with_reducible show eV _ _ _ (Value.int (nI _) :: _) _ _ _ _); refine ev_if_neN (tgt := 28) dX11_goGive_13 (by decide) (by exact Nat.lt_of_le_of_lt (sWhy_5 _ _ _ _ _) (by decide)) (fun c_13 => ?_) (fun c_13 => ?_)) | (refine ev_if_neZ (tgt := 28) dX11_goGive_13 (by decide) (fun c_13 => ?_) (fun c_13 => ?_))
  · refine ev_aload_n dX11_goGive_28 rfl rfl ?_
    refine ev_sipush (v := nI 385) dX11_goGive_29 rfl ?_
    refine ev_dup2 dX11_goGive_32 rfl rfl ?_
    first | refine ev_rowG (f := 0) (j := 5) dX11_goGive_33 (by assumption) (Nat.le_of_ble_eq_true rfl) (fun _ => rfl) ?_ | refine ev_ialoadA dX11_goGive_33 (by first | assumption | omega | exact ePp.ob (by assumption) | exact eNm.ob (by assumption) | exact eRg.ob (by assumption) | exact eTx.ob (by assumption) | exact ePa.ob (by assumption)) (by first | assumption | omega | exact ePp.ob (by assumption) | exact eNm.ob (by assumption) | exact eRg.ob (by assumption) | exact eTx.ob (by assumption) | exact ePa.ob (by assumption)) ?_
    refine ev_iconst (v := nI 1) dX11_goGive_34 rfl ?_
    first | refine ev_iaddN dX11_goGive_35 ?_ | refine ev_iadd dX11_goGive_35 ?_
    refine ev_rowsetG (f := 0) (j := 5) (i := 385) dX11_goGive_36 (by assumption) (Nat.le_of_ble_eq_true rfl) (rowF_g385 _) (fun g_36 fr_36 w_36 => ?_)
    replace hA := w_36
    first | replace FR := eFr.trans FR (eFr.one fr_36 (by omega) (by omega)) | replace FR := eFr.trans FR (eFr.wide fr_36 (by omega) (by omega))
    refine ev_iload dX11_goGive_37 rfl ?_
    exact ev_iret dX11_goGive_39 rfl rfl (by rfl) (by first | exact ⟨by rw [show sGiveT σ g p m c = sAddN σ g p m c (σ 0 2) from if_pos c_13]; exact hA, FR⟩ | exact ⟨by rw [show sGiveT σ g p m c = su σ 0 5 (σ 0 5 + 1) from if_neg c_13]; exact hA, FR⟩) (fun _ e => Option.some.inj e) (Nat.le_of_ble_eq_true rfl) (Nat.le_of_ble_eq_true rfl)
  · refine ev_aload_n dX11_goGive_16 rfl rfl ?_
    refine ev_iload_n dX11_goGive_17 rfl rfl ?_
    refine ev_iload_n dX11_goGive_18 rfl rfl ?_
    refine ev_iload_n dX11_goGive_19 rfl rfl ?_
    refine ev_iload dX11_goGive_20 rfl ?_
    refine ev_callSv dX11_goGive_22 (c_X11_add hA (sWhy_40 c_13)) lk_X11_90 ⟨Nat.le_of_ble_eq_true rfl, Nat.le_of_ble_eq_true rfl⟩ rfl (Nat.le_of_ble_eq_true rfl) ⟨by first | exact Nat.le_of_ble_eq_true rfl | omega, by first | exact Nat.le_of_ble_eq_true rfl | omega⟩ (fun g_22 hg_22 => ?_)
    obtain ⟨w_22, fr_22⟩ := hg_22
    replace hA := w_22
    first | replace FR := eFr.trans FR (eFr.one fr_22 (by omega) (by omega)) | replace FR := eFr.trans FR (eFr.wide fr_22 (by omega) (by omega))
    refine ev_goto (tgt := 37) dX11_goGive_25 (by decide) ?_
    refine ev_iload dX11_goGive_37 rfl ?_
    exact ev_iret dX11_goGive_39 rfl rfl (by rfl) (by first | exact ⟨by rw [show sGiveT σ g p m c = sAddN σ g p m c (σ 0 2) from if_pos c_13]; exact hA, FR⟩ | exact ⟨by rw [show sGiveT σ g p m c = su σ 0 5 (σ 0 5 + 1) from if_neg c_13]; exact hA, FR⟩) (fun _ e => Option.some.inj e) (Nat.le_of_ble_eq_true rfl) (Nat.le_of_ble_eq_true rfl)
def sGoC (σ : St) (b m c : Nat) : St := match sNameOn σ b none m c with
  | some k => sUse σ k (σ 0 2) (σ 14 0)
  | none => match sLM σ b m c with
    | none => su σ 0 4 (σ 0 4 + 1)
    | some p => sMix σ p ((sBN σ p m c).map (σ 9))
theorem sGoC_y {σ : St} {b m c k : Nat} (h : sNameOn σ b none m c = some k) : sGoC σ b m c = sUse σ k (σ 0 2) (σ 14 0) := by unfold sGoC; rw [h]
theorem sGoC_0 {σ : St} {b m c : Nat} (h : sNameOn σ b none m c = none) (h2 : sLM σ b m c = none) : sGoC σ b m c = su σ 0 4 (σ 0 4 + 1) := by unfold sGoC; rw [h, h2]
theorem sGoC_m {σ : St} {b m c p e : Nat} (h : sNameOn σ b none m c = none) (h2 : sLM σ b m c = some p) (h3 : sBN σ p m c = some e) : sGoC σ b m c = sMix σ p (some (σ 9 e)) := by unfold sGoC; rw [h, h2]; simp only [h3]; rfl
theorem sUse_s {σ : St} {k y u : Nat} (h1 : σ 12 k = 0) (h2 : u ≤ σ 10 k + 1) : sUse σ k y u = su (su (su (su σ 10 k (σ 10 k + 1)) 11 k y) 12 k 1) 13 k 1 := by unfold sUse; exact if_pos ⟨h1, h2⟩
theorem sUse_x {σ : St} {k y u : Nat} (h : ¬ (σ 12 k = 0 ∧ u ≤ σ 10 k + 1)) : sUse σ k y u = su (su (su (su σ 10 k (σ 10 k + 1)) 11 k y) 12 k (σ 12 k)) 13 k (σ 13 k) := by
  unfold sUse
  refine (if_neg h).trans ?_
  funext f j
  by_cases z3 : f = 13 ∧ j = k
  · rw [z3.1, z3.2, su_same, su_f (by decide), su_f (by decide)]
  · rw [su_ne (f := 13) (by omega)]
    by_cases z2 : f = 12 ∧ j = k
    · rw [z2.1, z2.2, su_same, su_f (by decide), su_f (by decide)]
    · rw [su_ne (f := 12) (by omega)]
theorem eOK.su4 {σ : St} {p v : Nat} (h : eOK σ) (hv : v < 2 ^ 31) : eOK (su σ 4 p v) := ⟨fun f i => by unfold su; split; exact hv; exact h.1 f i, h.2⟩
theorem sBNTo_4 {σ : St} {q v p m c : Nat} : ∀ k, sBNTo (su σ 4 q v) p m c k = sBNTo σ p m c k
  | 0 => rfl
  | k + 1 => by
    rw [sBNTo, sBNTo, sBNTo_4 k]
    rfl
theorem sBN_4 {σ : St} {q v p m c : Nat} : sBN (su σ 4 q v) p m c = sBN σ p m c := sBNTo_4 _
set_option maxHeartbeats 4000000 in
set_option maxRecDepth 20000 in
theorem c_X11_goCall {h : eH} {n a b m c T : Nat} {σ : St} (hA : eRow h a σ) (hI : eIv σ T) (hT : T < 2 ^ 30) (hb : b < 2 ^ 31) (hm : m < 2 ^ 31) (hc : c < 2 ^ 31) : kX11_goCall [.ref a, .int (nI b), .int (nI m), .int (nI c)] h n (.inl (some (.int (oI (sMns σ b m c)))), (fun g' => eRow g' a (sGoC σ b m c) ∧ eFr h g' a (a + 1)), some n) 0 0 := by
  refine eM.of RX11 "goCall" [(0, .ref a), (1, .int (nI b)), (2, .int (nI m)), (3, .int (nI c))] pn_X11 rfl rfl (Nat.le_of_ble_eq_true rfl) rfl ?_
  have hK := hI.ok hT
  have hB : eB σ := hK.1
  have h12 := hK.2.1
  have h40 := hK.2.2.1
  have FR : eFr h h a (a + 1) := eFr.rf
  refine ev_aload_n dX11_goCall_0 rfl rfl ?_
  refine ev_iload_n dX11_goCall_1 rfl rfl ?_
  refine ev_iconst (v := -1) dX11_goCall_2 (by decide) ?_
  refine ev_iload_n dX11_goCall_3 rfl rfl ?_
  refine ev_iload_n dX11_goCall_4 rfl rfl ?_
  refine ev_callSi dX11_goCall_5 (c_X11_nameOn (ex := none) hA hK hb (fun _ h9 => nomatch h9) hm hc) lk_X11_83 ⟨Nat.le_of_ble_eq_true rfl, Nat.le_of_ble_eq_true rfl⟩ rfl (Nat.le_of_ble_eq_true rfl) ⟨by first | exact Nat.le_of_ble_eq_true rfl | omega, by first | exact Nat.le_of_ble_eq_true rfl | omega⟩ (eRo ?_)
  refine ev_istore dX11_goCall_8 (Nat.le_of_ble_eq_true rfl) ?_
  refine ev_iload dX11_goCall_10 rfl ?_
  refine ev_iconst (v := -1) dX11_goCall_12 (by decide) ?_
  first | ((with_reducible show eV _ _ _ (Value.int (nI _) :: Value.int (nI _) :: _) _ _ _ _); refine ev_icmp_eqN (tgt := 128) dX11_goCall_13 (by decide) (by first | omega | exact hB _ _) (by first | omega | exact hB _ _) (fun c_13 => ?_) (fun c_13 => ?_)) | ((with_reducible show eV _ _ _ (Value.int (-1) :: Value.int (oI _) :: _) _ _ _ _); refine ev_icmp_eqO (tgt := 128) dX11_goCall_13 (by decide) (by first | (intro k9 h9; have := (fst_lt h9).1; omega)) (fun c_13 => ?_) (fun c_13 => ?_)) | ((with_reducible show eV _ _ _ (Value.int (oI _) :: Value.int (nI _) :: _) _ _ _ _); refine ev_icmp_eqNO (tgt := 128) dX11_goCall_13 (by decide) (by first | omega | exact hB _ _) (by first | (intro k9 h9; have := (fst_lt h9).1; omega)) (fun c_13 => ?_) (fun c_13 => ?_)) | ((with_reducible show eV _ _ _ (Value.int (nI _) :: Value.int (oI _) :: _) _ _ _ _); refine ev_icmp_eqON (tgt := 128) dX11_goCall_13 (by decide) (by first | omega | exact hB _ _) (by first | (intro k9 h9; have := (fst_lt h9).1; omega)) (fun c_13 => ?_) (fun c_13 => ?_)) | ((with_reducible show eV _ _ _ (Value.int (nI _) :: _) _ _ _ _); refine ev_icmp_eqZN (tgt := 128) dX11_goCall_13 (by decide) (by first | omega | exact hB _ _) (fun c_13 => ?_) (fun c_13 => ?_)) | ((with_reducible show eV _ _ _ (_ :: Value.int (nI _) :: _) _ _ _ _); refine ev_icmp_eqNZ (tgt := 128) dX11_goCall_13 (by decide) (by first | omega | exact hB _ _) (fun c_13 => ?_) (fun c_13 => ?_)) | (refine ev_icmp_eqZZ (tgt := 128) dX11_goCall_13 (by decide) (fun c_13 => ?_) (fun c_13 => ?_))
  · refine ev_aload_n dX11_goCall_128 rfl rfl ?_
    refine ev_iload_n dX11_goCall_129 rfl rfl ?_
    refine ev_iload_n dX11_goCall_130 rfl rfl ?_
    refine ev_iload_n dX11_goCall_131 rfl rfl ?_
    refine ev_callSi dX11_goCall_132 (c_X11_lowestMixed hA hK hb hm hc) lk_X11_98 ⟨Nat.le_of_ble_eq_true rfl, Nat.le_of_ble_eq_true rfl⟩ rfl (Nat.le_of_ble_eq_true rfl) ⟨by first | exact Nat.le_of_ble_eq_true rfl | omega, by first | exact Nat.le_of_ble_eq_true rfl | omega⟩ (eRo ?_)
    refine ev_istore dX11_goCall_135 (Nat.le_of_ble_eq_true rfl) ?_
    refine ev_iload dX11_goCall_137 rfl ?_
    refine ev_iconst (v := -1) dX11_goCall_139 (by decide) ?_
    first | ((with_reducible show eV _ _ _ (Value.int (nI _) :: Value.int (nI _) :: _) _ _ _ _); refine ev_icmp_neN (tgt := 154) dX11_goCall_140 (by decide) (by first | omega | exact hB _ _) (by first | omega | exact hB _ _) (fun c_140 => ?_) (fun c_140 => ?_)) | ((with_reducible show eV _ _ _ (Value.int (-1) :: Value.int (oI _) :: _) _ _ _ _); refine ev_icmp_neO (tgt := 154) dX11_goCall_140 (by decide) (by first | (intro k9 h9; have := (fst_lt h9).1; omega)) (fun c_140 => ?_) (fun c_140 => ?_)) | ((with_reducible show eV _ _ _ (Value.int (nI _) :: Value.int (oI _) :: _) _ _ _ _); refine ev_icmp_neON (tgt := 154) dX11_goCall_140 (by decide) (by first | omega | exact hB _ _) (by first | (intro k9 h9; have := (fst_lt h9).1; omega)) (fun c_140 => ?_) (fun c_140 => ?_)) | ((with_reducible show eV _ _ _ (Value.int (nI _) :: _) _ _ _ _); refine ev_icmp_neZN (tgt := 154) dX11_goCall_140 (by decide) (by first | omega | exact hB _ _) (fun c_140 => ?_) (fun c_140 => ?_)) | ((with_reducible show eV _ _ _ (_ :: Value.int (nI _) :: _) _ _ _ _); refine ev_icmp_neNZ (tgt := 154) dX11_goCall_140 (by decide) (by first | omega | exact hB _ _) (fun c_140 => ?_) (fun c_140 => ?_)) | (refine ev_icmp_neZZ (tgt := 154) dX11_goCall_140 (by decide) (fun c_140 => ?_) (fun c_140 => ?_))
    · obtain ⟨p, hp⟩ := Option.ne_none_iff_exists'.mp c_140
      rw [hp, show oI (some p) = nI p from rfl]
      have hp2 := fst_lt hp
      obtain ⟨e, he⟩ := Option.isSome_iff_exists.mp (Bool.and_eq_true _ _ ▸ hp2.2.1).2
      have he2 := (sBNTo_lt he).1
      have he9 := (hK.2.2.2.1 e he2).1
      have h4p := (hI.2.2.1 p).2.2.2.1
      refine ev_aload_n dX11_goCall_154 rfl rfl ?_
      refine ev_iconst (v := nI 5) dX11_goCall_155 rfl ?_
      refine ev_iload dX11_goCall_156 rfl ?_
      first | refine ev_imulN dX11_goCall_158 ?_ | refine ev_imul dX11_goCall_158 ?_
      refine ev_iconst (v := nI 3) dX11_goCall_159 rfl ?_
      first | refine ev_iaddN dX11_goCall_160 ?_ | refine ev_iadd dX11_goCall_160 ?_
      refine ev_dup2 dX11_goCall_161 rfl rfl ?_
      first | refine ev_rowN (f := 3) (F := 9) dX11_goCall_162 (by assumption) (by first | assumption | omega | exact ePp.ob (by assumption) | exact eNm.ob (by assumption) | exact eRg.ob (by assumption) | exact eTx.ob (by assumption) | exact ePa.ob (by assumption)) (by decide) rfl ?_ | refine ev_rowP (f := 3) (F := 4) dX11_goCall_162 (by assumption) (by first | assumption | omega | exact ePp.ob (by assumption) | exact eNm.ob (by assumption) | exact eRg.ob (by assumption) | exact eTx.ob (by assumption) | exact ePa.ob (by assumption)) (by decide) rfl ?_ | refine ev_ialoadA dX11_goCall_162 (by first | assumption | omega | exact ePp.ob (by assumption) | exact eNm.ob (by assumption) | exact eRg.ob (by assumption) | exact eTx.ob (by assumption) | exact ePa.ob (by assumption)) (by first | assumption | omega | exact ePp.ob (by assumption) | exact eNm.ob (by assumption) | exact eRg.ob (by assumption) | exact eTx.ob (by assumption) | exact ePa.ob (by assumption)) ?_
      refine ev_iconst (v := nI 1) dX11_goCall_163 rfl ?_
      first | refine ev_iaddN dX11_goCall_164 ?_ | refine ev_iadd dX11_goCall_164 ?_
      first | refine ev_rowsetN (f := 3) (F := 9) dX11_goCall_165 (by assumption) (by first | assumption | omega | exact ePp.ob (by assumption) | exact eNm.ob (by assumption) | exact eRg.ob (by assumption) | exact eTx.ob (by assumption) | exact ePa.ob (by assumption)) (by decide) rfl (fun g_165 fr_165 w_165 => ?_) | refine ev_rowsetP (f := 3) (F := 4) dX11_goCall_165 (by assumption) (by first | assumption | omega | exact ePp.ob (by assumption) | exact eNm.ob (by assumption) | exact eRg.ob (by assumption) | exact eTx.ob (by assumption) | exact ePa.ob (by assumption)) (by decide) rfl (fun g_165 fr_165 w_165 => ?_)
      replace hA := w_165
      first | replace FR := eFr.trans FR (eFr.one fr_165 (by omega) (by omega)) | replace FR := eFr.trans FR (eFr.wide fr_165 (by omega) (by omega))
      refine ev_aload_n dX11_goCall_166 rfl rfl ?_
      refine ev_iconst (v := nI 5) dX11_goCall_167 rfl ?_
      refine ev_aload_n dX11_goCall_168 rfl rfl ?_
      refine ev_aload_n dX11_goCall_169 rfl rfl ?_
      refine ev_iload dX11_goCall_170 rfl ?_
      refine ev_iload_n dX11_goCall_172 rfl rfl ?_
      refine ev_iload_n dX11_goCall_173 rfl rfl ?_
      refine ev_callSi dX11_goCall_174 (c_X11_brothersName hA (hK.su4 (by omega)) (by omega) hm hc) lk_X11_94 ⟨Nat.le_of_ble_eq_true rfl, Nat.le_of_ble_eq_true rfl⟩ rfl (Nat.le_of_ble_eq_true rfl) ⟨by first | exact Nat.le_of_ble_eq_true rfl | omega, by first | exact Nat.le_of_ble_eq_true rfl | omega⟩ (eRo ?_)
      rw [sBN_4, he, show oI (some e) = nI e from rfl]
      refine ev_callSi dX11_goCall_177 c_X11_spot lk_X11_61 ⟨Nat.le_of_ble_eq_true rfl, Nat.le_of_ble_eq_true rfl⟩ rfl (Nat.le_of_ble_eq_true rfl) ⟨by first | exact Nat.le_of_ble_eq_true rfl | omega, by first | exact Nat.le_of_ble_eq_true rfl | omega⟩ (eRo ?_)
      refine ev_iconst (v := nI 3) dX11_goCall_180 rfl ?_
      first | refine ev_iaddN dX11_goCall_181 ?_ | refine ev_iadd dX11_goCall_181 ?_
      first | refine ev_rowN (f := 3) (F := 9) dX11_goCall_182 (by assumption) (by first | assumption | omega | exact ePp.ob (by assumption) | exact eNm.ob (by assumption) | exact eRg.ob (by assumption) | exact eTx.ob (by assumption) | exact ePa.ob (by assumption)) (by decide) rfl ?_ | refine ev_rowP (f := 3) (F := 4) dX11_goCall_182 (by assumption) (by first | assumption | omega | exact ePp.ob (by assumption) | exact eNm.ob (by assumption) | exact eRg.ob (by assumption) | exact eTx.ob (by assumption) | exact ePa.ob (by assumption)) (by decide) rfl ?_ | refine ev_ialoadA dX11_goCall_182 (by first | assumption | omega | exact ePp.ob (by assumption) | exact eNm.ob (by assumption) | exact eRg.ob (by assumption) | exact eTx.ob (by assumption) | exact ePa.ob (by assumption)) (by first | assumption | omega | exact ePp.ob (by assumption) | exact eNm.ob (by assumption) | exact eRg.ob (by assumption) | exact eTx.ob (by assumption) | exact ePa.ob (by assumption)) ?_
      refine ev_top (show nI _ = nI (σ 9 e) from rfl) ?_
      first | refine ev_imulN dX11_goCall_183 ?_ | refine ev_imul dX11_goCall_183 ?_
      refine ev_iconst (v := nI 4) dX11_goCall_184 rfl ?_
      first | refine ev_iaddN dX11_goCall_185 ?_ | refine ev_iadd dX11_goCall_185 ?_
      refine ev_dup2 dX11_goCall_186 rfl rfl ?_
      first | refine ev_rowN (f := 4) (F := 10) dX11_goCall_187 (by assumption) (by first | assumption | omega | exact ePp.ob (by assumption) | exact eNm.ob (by assumption) | exact eRg.ob (by assumption) | exact eTx.ob (by assumption) | exact ePa.ob (by assumption)) (by decide) rfl ?_ | refine ev_rowP (f := 4) (F := 5) dX11_goCall_187 (by assumption) (by first | assumption | omega | exact ePp.ob (by assumption) | exact eNm.ob (by assumption) | exact eRg.ob (by assumption) | exact eTx.ob (by assumption) | exact ePa.ob (by assumption)) (by decide) rfl ?_ | refine ev_ialoadA dX11_goCall_187 (by first | assumption | omega | exact ePp.ob (by assumption) | exact eNm.ob (by assumption) | exact eRg.ob (by assumption) | exact eTx.ob (by assumption) | exact ePa.ob (by assumption)) (by first | assumption | omega | exact ePp.ob (by assumption) | exact eNm.ob (by assumption) | exact eRg.ob (by assumption) | exact eTx.ob (by assumption) | exact ePa.ob (by assumption)) ?_
      refine ev_iconst (v := nI 1) dX11_goCall_188 rfl ?_
      first | refine ev_iaddN dX11_goCall_189 ?_ | refine ev_iadd dX11_goCall_189 ?_
      first | refine ev_rowsetN (f := 4) (F := 10) dX11_goCall_190 (by assumption) (by first | assumption | omega | exact ePp.ob (by assumption) | exact eNm.ob (by assumption) | exact eRg.ob (by assumption) | exact eTx.ob (by assumption) | exact ePa.ob (by assumption)) (by decide) rfl (fun g_190 fr_190 w_190 => ?_) | refine ev_rowsetP (f := 4) (F := 5) dX11_goCall_190 (by assumption) (by first | assumption | omega | exact ePp.ob (by assumption) | exact eNm.ob (by assumption) | exact eRg.ob (by assumption) | exact eTx.ob (by assumption) | exact ePa.ob (by assumption)) (by decide) rfl (fun g_190 fr_190 w_190 => ?_)
      replace hA := w_190
      first | replace FR := eFr.trans FR (eFr.one fr_190 (by omega) (by omega)) | replace FR := eFr.trans FR (eFr.wide fr_190 (by omega) (by omega))
      refine ev_aload_n dX11_goCall_191 rfl rfl ?_
      refine ev_sipush (v := nI 383) dX11_goCall_192 rfl ?_
      refine ev_dup2 dX11_goCall_195 rfl rfl ?_
      first | refine ev_rowG (f := 0) (j := 3) dX11_goCall_196 (by assumption) (Nat.le_of_ble_eq_true rfl) (fun _ => rfl) ?_ | refine ev_ialoadA dX11_goCall_196 (by first | assumption | omega | exact ePp.ob (by assumption) | exact eNm.ob (by assumption) | exact eRg.ob (by assumption) | exact eTx.ob (by assumption) | exact ePa.ob (by assumption)) (by first | assumption | omega | exact ePp.ob (by assumption) | exact eNm.ob (by assumption) | exact eRg.ob (by assumption) | exact eTx.ob (by assumption) | exact ePa.ob (by assumption)) ?_
      refine ev_iconst (v := nI 1) dX11_goCall_197 rfl ?_
      first | refine ev_iaddN dX11_goCall_198 ?_ | refine ev_iadd dX11_goCall_198 ?_
      refine ev_rowsetG (f := 0) (j := 3) (i := 383) dX11_goCall_199 (by assumption) (Nat.le_of_ble_eq_true rfl) (rowF_g383 _) (fun g_199 fr_199 w_199 => ?_)
      replace hA := w_199
      first | replace FR := eFr.trans FR (eFr.one fr_199 (by omega) (by omega)) | replace FR := eFr.trans FR (eFr.wide fr_199 (by omega) (by omega))
      refine ev_iload dX11_goCall_200 rfl ?_
      exact ev_iret dX11_goCall_202 rfl rfl (by exact oRx ((sMns_n c_13).trans hp)) (by exact ⟨by rw [sGoC_m c_13 hp he]; exact hA, FR⟩) (fun _ e => Option.some.inj e) (Nat.le_of_ble_eq_true rfl) (Nat.le_of_ble_eq_true rfl)
    · refine ev_aload_n dX11_goCall_143 rfl rfl ?_
      refine ev_sipush (v := nI 384) dX11_goCall_144 rfl ?_
      refine ev_dup2 dX11_goCall_147 rfl rfl ?_
      first | refine ev_rowG (f := 0) (j := 4) dX11_goCall_148 (by assumption) (Nat.le_of_ble_eq_true rfl) (fun _ => rfl) ?_ | refine ev_ialoadA dX11_goCall_148 (by first | assumption | omega | exact ePp.ob (by assumption) | exact eNm.ob (by assumption) | exact eRg.ob (by assumption) | exact eTx.ob (by assumption) | exact ePa.ob (by assumption)) (by first | assumption | omega | exact ePp.ob (by assumption) | exact eNm.ob (by assumption) | exact eRg.ob (by assumption) | exact eTx.ob (by assumption) | exact ePa.ob (by assumption)) ?_
      refine ev_iconst (v := nI 1) dX11_goCall_149 rfl ?_
      first | refine ev_iaddN dX11_goCall_150 ?_ | refine ev_iadd dX11_goCall_150 ?_
      refine ev_rowsetG (f := 0) (j := 4) (i := 384) dX11_goCall_151 (by assumption) (Nat.le_of_ble_eq_true rfl) (rowF_g384 _) (fun g_151 fr_151 w_151 => ?_)
      replace hA := w_151
      first | replace FR := eFr.trans FR (eFr.one fr_151 (by omega) (by omega)) | replace FR := eFr.trans FR (eFr.wide fr_151 (by omega) (by omega))
      refine ev_iconst (v := -1) dX11_goCall_152 (by decide) ?_
      exact ev_iret dX11_goCall_153 rfl rfl (by exact oRn ((sMns_n c_13).trans c_140)) (by exact ⟨by rw [sGoC_0 c_13 c_140]; exact hA, FR⟩) (fun _ e => Option.some.inj e) (Nat.le_of_ble_eq_true rfl) (Nat.le_of_ble_eq_true rfl)
  · obtain ⟨k, hk⟩ := Option.ne_none_iff_exists'.mp c_13
    rw [hk, show oI (some k) = nI k from rfl]
    have hk2 := (fst_lt hk).1
    have hu := (hI.2.2.2.1 k).2.2.2.2.1
    have hs0 := hK.2.2.2.2.2.2.1
    have h12k := hB 12 k
    refine ev_iload dX11_goCall_16 rfl ?_
    refine ev_callSi dX11_goCall_18 c_X11_spot lk_X11_61 ⟨Nat.le_of_ble_eq_true rfl, Nat.le_of_ble_eq_true rfl⟩ rfl (Nat.le_of_ble_eq_true rfl) ⟨by first | exact Nat.le_of_ble_eq_true rfl | omega, by first | exact Nat.le_of_ble_eq_true rfl | omega⟩ (eRo ?_)
    refine ev_istore dX11_goCall_21 (Nat.le_of_ble_eq_true rfl) ?_
    refine ev_aload_n dX11_goCall_23 rfl rfl ?_
    refine ev_iload dX11_goCall_24 rfl ?_
    refine ev_iconst (v := nI 4) dX11_goCall_26 rfl ?_
    first | refine ev_iaddN dX11_goCall_27 ?_ | refine ev_iadd dX11_goCall_27 ?_
    refine ev_dup2 dX11_goCall_28 rfl rfl ?_
    first | refine ev_rowN (f := 4) (F := 10) dX11_goCall_29 (by assumption) (by first | assumption | omega | exact ePp.ob (by assumption) | exact eNm.ob (by assumption) | exact eRg.ob (by assumption) | exact eTx.ob (by assumption) | exact ePa.ob (by assumption)) (by decide) rfl ?_ | refine ev_rowP (f := 4) (F := 5) dX11_goCall_29 (by assumption) (by first | assumption | omega | exact ePp.ob (by assumption) | exact eNm.ob (by assumption) | exact eRg.ob (by assumption) | exact eTx.ob (by assumption) | exact ePa.ob (by assumption)) (by decide) rfl ?_ | refine ev_ialoadA dX11_goCall_29 (by first | assumption | omega | exact ePp.ob (by assumption) | exact eNm.ob (by assumption) | exact eRg.ob (by assumption) | exact eTx.ob (by assumption) | exact ePa.ob (by assumption)) (by first | assumption | omega | exact ePp.ob (by assumption) | exact eNm.ob (by assumption) | exact eRg.ob (by assumption) | exact eTx.ob (by assumption) | exact ePa.ob (by assumption)) ?_
    refine ev_iconst (v := nI 1) dX11_goCall_30 rfl ?_
    first | refine ev_iaddN dX11_goCall_31 ?_ | refine ev_iadd dX11_goCall_31 ?_
    first | refine ev_rowsetN (f := 4) (F := 10) dX11_goCall_32 (by assumption) (by first | assumption | omega | exact ePp.ob (by assumption) | exact eNm.ob (by assumption) | exact eRg.ob (by assumption) | exact eTx.ob (by assumption) | exact ePa.ob (by assumption)) (by decide) rfl (fun g_32 fr_32 w_32 => ?_) | refine ev_rowsetP (f := 4) (F := 5) dX11_goCall_32 (by assumption) (by first | assumption | omega | exact ePp.ob (by assumption) | exact eNm.ob (by assumption) | exact eRg.ob (by assumption) | exact eTx.ob (by assumption) | exact ePa.ob (by assumption)) (by decide) rfl (fun g_32 fr_32 w_32 => ?_)
    replace hA := w_32
    first | replace FR := eFr.trans FR (eFr.one fr_32 (by omega) (by omega)) | replace FR := eFr.trans FR (eFr.wide fr_32 (by omega) (by omega))
    refine ev_aload_n dX11_goCall_33 rfl rfl ?_
    refine ev_iload dX11_goCall_34 rfl ?_
    refine ev_iconst (v := nI 5) dX11_goCall_36 rfl ?_
    first | refine ev_iaddN dX11_goCall_37 ?_ | refine ev_iadd dX11_goCall_37 ?_
    refine ev_aload_n dX11_goCall_38 rfl rfl ?_
    refine ev_sipush (v := nI 382) dX11_goCall_39 rfl ?_
    first | refine ev_rowG (f := 0) (j := 2) dX11_goCall_42 (by assumption) (Nat.le_of_ble_eq_true rfl) (fun _ => rfl) ?_ | refine ev_ialoadA dX11_goCall_42 (by first | assumption | omega | exact ePp.ob (by assumption) | exact eNm.ob (by assumption) | exact eRg.ob (by assumption) | exact eTx.ob (by assumption) | exact ePa.ob (by assumption)) (by first | assumption | omega | exact ePp.ob (by assumption) | exact eNm.ob (by assumption) | exact eRg.ob (by assumption) | exact eTx.ob (by assumption) | exact ePa.ob (by assumption)) ?_
    first | refine ev_rowsetN (f := 5) (F := 11) dX11_goCall_43 (by assumption) (by first | assumption | omega | exact ePp.ob (by assumption) | exact eNm.ob (by assumption) | exact eRg.ob (by assumption) | exact eTx.ob (by assumption) | exact ePa.ob (by assumption)) (by decide) rfl (fun g_43 fr_43 w_43 => ?_)
    replace hA := w_43
    first | replace FR := eFr.trans FR (eFr.one fr_43 (by omega) (by omega)) | replace FR := eFr.trans FR (eFr.wide fr_43 (by omega) (by omega))
    refine ev_aload_n dX11_goCall_44 rfl rfl ?_
    refine ev_iload dX11_goCall_45 rfl ?_
    refine ev_bipush (v := nI 6) dX11_goCall_47 rfl ?_
    first | refine ev_iaddN dX11_goCall_49 ?_ | refine ev_iadd dX11_goCall_49 ?_
    first | refine ev_rowN (f := 6) (F := 12) dX11_goCall_50 (by assumption) (by first | assumption | omega | exact ePp.ob (by assumption) | exact eNm.ob (by assumption) | exact eRg.ob (by assumption) | exact eTx.ob (by assumption) | exact ePa.ob (by assumption)) (by decide) rfl ?_ | refine ev_ialoadA dX11_goCall_50 (by first | assumption | omega | exact ePp.ob (by assumption) | exact eNm.ob (by assumption) | exact eRg.ob (by assumption) | exact eTx.ob (by assumption) | exact ePa.ob (by assumption)) (by first | assumption | omega | exact ePp.ob (by assumption) | exact eNm.ob (by assumption) | exact eRg.ob (by assumption) | exact eTx.ob (by assumption) | exact ePa.ob (by assumption)) ?_
    refine ev_top (show nI _ = nI (σ 12 k) from rfl) ?_
    first | ((with_reducible show eV _ _ _ (Value.int (bI _) :: _) _ _ _ _); refine ev_if_neB (tgt := 72) dX11_goCall_51 (by decide) (fun c_51 => ?_) (fun c_51 => ?_)) | ((with_reducible show eV _ _ _ (Value.int (nI _) :: _) _ _ _ _); refine ev_if_neN (tgt := 72) dX11_goCall_51 (by decide) (by first | omega | exact hB _ _) (fun c_51 => ?_) (fun c_51 => ?_)) | (refine ev_if_neZ (tgt := 72) dX11_goCall_51 (by decide) (fun c_51 => ?_) (fun c_51 => ?_))
    · refine ev_iconst (v := nI 0) dX11_goCall_72 rfl ?_
      refine ev_istore dX11_goCall_73 (Nat.le_of_ble_eq_true rfl) ?_
      refine ev_aload_n dX11_goCall_75 rfl rfl ?_
      refine ev_iload dX11_goCall_76 rfl ?_
      refine ev_bipush (v := nI 6) dX11_goCall_78 rfl ?_
      first | refine ev_iaddN dX11_goCall_80 ?_ | refine ev_iadd dX11_goCall_80 ?_
      refine ev_iload dX11_goCall_81 rfl ?_
      refine ev_if_eqN (tgt := 90) dX11_goCall_83 (by decide) (by decide) (fun _ => ?_) (fun c => absurd rfl c)
      refine ev_aload_n dX11_goCall_90 rfl rfl ?_
      refine ev_iload dX11_goCall_91 rfl ?_
      refine ev_bipush (v := nI 6) dX11_goCall_93 rfl ?_
      first | refine ev_iaddN dX11_goCall_95 ?_ | refine ev_iadd dX11_goCall_95 ?_
      first | refine ev_rowN (f := 6) (F := 12) dX11_goCall_96 (by assumption) (by first | assumption | omega | exact ePp.ob (by assumption) | exact eNm.ob (by assumption) | exact eRg.ob (by assumption) | exact eTx.ob (by assumption) | exact ePa.ob (by assumption)) (by decide) rfl ?_ | refine ev_ialoadA dX11_goCall_96 (by first | assumption | omega | exact ePp.ob (by assumption) | exact eNm.ob (by assumption) | exact eRg.ob (by assumption) | exact eTx.ob (by assumption) | exact ePa.ob (by assumption)) (by first | assumption | omega | exact ePp.ob (by assumption) | exact eNm.ob (by assumption) | exact eRg.ob (by assumption) | exact eTx.ob (by assumption) | exact ePa.ob (by assumption)) ?_
      refine ev_top (show nI _ = nI (σ 12 k) from rfl) ?_
      first | refine ev_rowsetN (f := 6) (F := 12) dX11_goCall_97 (by assumption) (by first | assumption | omega | exact ePp.ob (by assumption) | exact eNm.ob (by assumption) | exact eRg.ob (by assumption) | exact eTx.ob (by assumption) | exact ePa.ob (by assumption)) (by decide) rfl (fun g_97 fr_97 w_97 => ?_)
      replace hA := w_97
      first | replace FR := eFr.trans FR (eFr.one fr_97 (by omega) (by omega)) | replace FR := eFr.trans FR (eFr.wide fr_97 (by omega) (by omega))
      refine ev_aload_n dX11_goCall_98 rfl rfl ?_
      refine ev_iload dX11_goCall_99 rfl ?_
      refine ev_bipush (v := nI 7) dX11_goCall_101 rfl ?_
      first | refine ev_iaddN dX11_goCall_103 ?_ | refine ev_iadd dX11_goCall_103 ?_
      refine ev_iload dX11_goCall_104 rfl ?_
      refine ev_if_eqN (tgt := 113) dX11_goCall_106 (by decide) (by decide) (fun _ => ?_) (fun c => absurd rfl c)
      refine ev_aload_n dX11_goCall_113 rfl rfl ?_
      refine ev_iload dX11_goCall_114 rfl ?_
      refine ev_bipush (v := nI 7) dX11_goCall_116 rfl ?_
      first | refine ev_iaddN dX11_goCall_118 ?_ | refine ev_iadd dX11_goCall_118 ?_
      first | refine ev_rowN (f := 7) (F := 13) dX11_goCall_119 (by assumption) (by first | assumption | omega | exact ePp.ob (by assumption) | exact eNm.ob (by assumption) | exact eRg.ob (by assumption) | exact eTx.ob (by assumption) | exact ePa.ob (by assumption)) (by decide) rfl ?_ | refine ev_ialoadA dX11_goCall_119 (by first | assumption | omega | exact ePp.ob (by assumption) | exact eNm.ob (by assumption) | exact eRg.ob (by assumption) | exact eTx.ob (by assumption) | exact ePa.ob (by assumption)) (by first | assumption | omega | exact ePp.ob (by assumption) | exact eNm.ob (by assumption) | exact eRg.ob (by assumption) | exact eTx.ob (by assumption) | exact ePa.ob (by assumption)) ?_
      refine ev_top (show nI _ = nI (σ 13 k) from rfl) ?_
      first | refine ev_rowsetN (f := 7) (F := 13) dX11_goCall_120 (by assumption) (by first | assumption | omega | exact ePp.ob (by assumption) | exact eNm.ob (by assumption) | exact eRg.ob (by assumption) | exact eTx.ob (by assumption) | exact ePa.ob (by assumption)) (by decide) rfl (fun g_120 fr_120 w_120 => ?_)
      replace hA := w_120
      first | replace FR := eFr.trans FR (eFr.one fr_120 (by omega) (by omega)) | replace FR := eFr.trans FR (eFr.wide fr_120 (by omega) (by omega))
      refine ev_aload_n dX11_goCall_121 rfl rfl ?_
      refine ev_iload dX11_goCall_122 rfl ?_
      refine ev_iconst (v := nI 3) dX11_goCall_124 rfl ?_
      first | refine ev_iaddN dX11_goCall_125 ?_ | refine ev_iadd dX11_goCall_125 ?_
      first | refine ev_rowN (f := 3) (F := 9) dX11_goCall_126 (by assumption) (by first | assumption | omega | exact ePp.ob (by assumption) | exact eNm.ob (by assumption) | exact eRg.ob (by assumption) | exact eTx.ob (by assumption) | exact ePa.ob (by assumption)) (by decide) rfl ?_ | refine ev_rowP (f := 3) (F := 4) dX11_goCall_126 (by assumption) (by first | assumption | omega | exact ePp.ob (by assumption) | exact eNm.ob (by assumption) | exact eRg.ob (by assumption) | exact eTx.ob (by assumption) | exact ePa.ob (by assumption)) (by decide) rfl ?_ | refine ev_ialoadA dX11_goCall_126 (by first | assumption | omega | exact ePp.ob (by assumption) | exact eNm.ob (by assumption) | exact eRg.ob (by assumption) | exact eTx.ob (by assumption) | exact ePa.ob (by assumption)) (by first | assumption | omega | exact ePp.ob (by assumption) | exact eNm.ob (by assumption) | exact eRg.ob (by assumption) | exact eTx.ob (by assumption) | exact ePa.ob (by assumption)) ?_
      exact ev_iret dX11_goCall_127 rfl rfl (by exact oRx (sMns_y hk)) (by first | exact ⟨by rw [sGoC_y hk, sUse_s c_51 c_65]; exact hA, FR⟩ | exact ⟨by rw [sGoC_y hk, sUse_x (fun z => c_51 z.1)]; exact hA, FR⟩ | exact ⟨by rw [sGoC_y hk, sUse_x (fun z => absurd z.2 (by omega))]; exact hA, FR⟩) (fun _ e => Option.some.inj e) (Nat.le_of_ble_eq_true rfl) (Nat.le_of_ble_eq_true rfl)
    · refine ev_aload_n dX11_goCall_54 rfl rfl ?_
      refine ev_iload dX11_goCall_55 rfl ?_
      refine ev_iconst (v := nI 4) dX11_goCall_57 rfl ?_
      first | refine ev_iaddN dX11_goCall_58 ?_ | refine ev_iadd dX11_goCall_58 ?_
      first | refine ev_rowN (f := 4) (F := 10) dX11_goCall_59 (by assumption) (by first | assumption | omega | exact ePp.ob (by assumption) | exact eNm.ob (by assumption) | exact eRg.ob (by assumption) | exact eTx.ob (by assumption) | exact ePa.ob (by assumption)) (by decide) rfl ?_ | refine ev_rowP (f := 4) (F := 5) dX11_goCall_59 (by assumption) (by first | assumption | omega | exact ePp.ob (by assumption) | exact eNm.ob (by assumption) | exact eRg.ob (by assumption) | exact eTx.ob (by assumption) | exact ePa.ob (by assumption)) (by decide) rfl ?_ | refine ev_ialoadA dX11_goCall_59 (by first | assumption | omega | exact ePp.ob (by assumption) | exact eNm.ob (by assumption) | exact eRg.ob (by assumption) | exact eTx.ob (by assumption) | exact ePa.ob (by assumption)) (by first | assumption | omega | exact ePp.ob (by assumption) | exact eNm.ob (by assumption) | exact eRg.ob (by assumption) | exact eTx.ob (by assumption) | exact ePa.ob (by assumption)) ?_
      refine ev_top (show nI _ = nI (σ 10 k + 1) from congrArg nI (su_same σ 10 k (σ 10 k + 1))) ?_
      refine ev_aload_n dX11_goCall_60 rfl rfl ?_
      refine ev_sipush (v := nI 386) dX11_goCall_61 rfl ?_
      first | refine ev_rowG (f := 14) (j := 0) dX11_goCall_64 (by assumption) (Nat.le_of_ble_eq_true rfl) (fun _ => rfl) ?_ | refine ev_ialoadA dX11_goCall_64 (by first | assumption | omega | exact ePp.ob (by assumption) | exact eNm.ob (by assumption) | exact eRg.ob (by assumption) | exact eTx.ob (by assumption) | exact ePa.ob (by assumption)) (by first | assumption | omega | exact ePp.ob (by assumption) | exact eNm.ob (by assumption) | exact eRg.ob (by assumption) | exact eTx.ob (by assumption) | exact ePa.ob (by assumption)) ?_
      refine ev_top (show nI _ = nI (σ 14 0) from rfl) ?_
      first | ((with_reducible show eV _ _ _ (Value.int (nI _) :: Value.int (nI _) :: _) _ _ _ _); refine ev_icmp_ltN (tgt := 72) dX11_goCall_65 (by decide) (by first | omega | exact hB _ _) (by first | omega | exact hB _ _) (fun c_65 => ?_) (fun c_65 => ?_)) | ((with_reducible show eV _ _ _ (Value.int (nI _) :: _) _ _ _ _); refine ev_icmp_ltZN (tgt := 72) dX11_goCall_65 (by decide) (by first | omega | exact hB _ _) (fun c_65 => ?_) (fun c_65 => ?_)) | ((with_reducible show eV _ _ _ (_ :: Value.int (nI _) :: _) _ _ _ _); refine ev_icmp_ltNZ (tgt := 72) dX11_goCall_65 (by decide) (by first | omega | exact hB _ _) (fun c_65 => ?_) (fun c_65 => ?_)) | (refine ev_icmp_ltZZ (tgt := 72) dX11_goCall_65 (by decide) (fun c_65 => ?_) (fun c_65 => ?_))
      · refine ev_iconst (v := nI 0) dX11_goCall_72 rfl ?_
        refine ev_istore dX11_goCall_73 (Nat.le_of_ble_eq_true rfl) ?_
        refine ev_aload_n dX11_goCall_75 rfl rfl ?_
        refine ev_iload dX11_goCall_76 rfl ?_
        refine ev_bipush (v := nI 6) dX11_goCall_78 rfl ?_
        first | refine ev_iaddN dX11_goCall_80 ?_ | refine ev_iadd dX11_goCall_80 ?_
        refine ev_iload dX11_goCall_81 rfl ?_
        refine ev_if_eqN (tgt := 90) dX11_goCall_83 (by decide) (by decide) (fun _ => ?_) (fun c => absurd rfl c)
        refine ev_aload_n dX11_goCall_90 rfl rfl ?_
        refine ev_iload dX11_goCall_91 rfl ?_
        refine ev_bipush (v := nI 6) dX11_goCall_93 rfl ?_
        first | refine ev_iaddN dX11_goCall_95 ?_ | refine ev_iadd dX11_goCall_95 ?_
        first | refine ev_rowN (f := 6) (F := 12) dX11_goCall_96 (by assumption) (by first | assumption | omega | exact ePp.ob (by assumption) | exact eNm.ob (by assumption) | exact eRg.ob (by assumption) | exact eTx.ob (by assumption) | exact ePa.ob (by assumption)) (by decide) rfl ?_ | refine ev_ialoadA dX11_goCall_96 (by first | assumption | omega | exact ePp.ob (by assumption) | exact eNm.ob (by assumption) | exact eRg.ob (by assumption) | exact eTx.ob (by assumption) | exact ePa.ob (by assumption)) (by first | assumption | omega | exact ePp.ob (by assumption) | exact eNm.ob (by assumption) | exact eRg.ob (by assumption) | exact eTx.ob (by assumption) | exact ePa.ob (by assumption)) ?_
        refine ev_top (show nI _ = nI (σ 12 k) from rfl) ?_
        first | refine ev_rowsetN (f := 6) (F := 12) dX11_goCall_97 (by assumption) (by first | assumption | omega | exact ePp.ob (by assumption) | exact eNm.ob (by assumption) | exact eRg.ob (by assumption) | exact eTx.ob (by assumption) | exact ePa.ob (by assumption)) (by decide) rfl (fun g_97 fr_97 w_97 => ?_)
        replace hA := w_97
        first | replace FR := eFr.trans FR (eFr.one fr_97 (by omega) (by omega)) | replace FR := eFr.trans FR (eFr.wide fr_97 (by omega) (by omega))
        refine ev_aload_n dX11_goCall_98 rfl rfl ?_
        refine ev_iload dX11_goCall_99 rfl ?_
        refine ev_bipush (v := nI 7) dX11_goCall_101 rfl ?_
        first | refine ev_iaddN dX11_goCall_103 ?_ | refine ev_iadd dX11_goCall_103 ?_
        refine ev_iload dX11_goCall_104 rfl ?_
        refine ev_if_eqN (tgt := 113) dX11_goCall_106 (by decide) (by decide) (fun _ => ?_) (fun c => absurd rfl c)
        refine ev_aload_n dX11_goCall_113 rfl rfl ?_
        refine ev_iload dX11_goCall_114 rfl ?_
        refine ev_bipush (v := nI 7) dX11_goCall_116 rfl ?_
        first | refine ev_iaddN dX11_goCall_118 ?_ | refine ev_iadd dX11_goCall_118 ?_
        first | refine ev_rowN (f := 7) (F := 13) dX11_goCall_119 (by assumption) (by first | assumption | omega | exact ePp.ob (by assumption) | exact eNm.ob (by assumption) | exact eRg.ob (by assumption) | exact eTx.ob (by assumption) | exact ePa.ob (by assumption)) (by decide) rfl ?_ | refine ev_ialoadA dX11_goCall_119 (by first | assumption | omega | exact ePp.ob (by assumption) | exact eNm.ob (by assumption) | exact eRg.ob (by assumption) | exact eTx.ob (by assumption) | exact ePa.ob (by assumption)) (by first | assumption | omega | exact ePp.ob (by assumption) | exact eNm.ob (by assumption) | exact eRg.ob (by assumption) | exact eTx.ob (by assumption) | exact ePa.ob (by assumption)) ?_
        refine ev_top (show nI _ = nI (σ 13 k) from rfl) ?_
        first | refine ev_rowsetN (f := 7) (F := 13) dX11_goCall_120 (by assumption) (by first | assumption | omega | exact ePp.ob (by assumption) | exact eNm.ob (by assumption) | exact eRg.ob (by assumption) | exact eTx.ob (by assumption) | exact ePa.ob (by assumption)) (by decide) rfl (fun g_120 fr_120 w_120 => ?_)
        replace hA := w_120
        first | replace FR := eFr.trans FR (eFr.one fr_120 (by omega) (by omega)) | replace FR := eFr.trans FR (eFr.wide fr_120 (by omega) (by omega))
        refine ev_aload_n dX11_goCall_121 rfl rfl ?_
        refine ev_iload dX11_goCall_122 rfl ?_
        refine ev_iconst (v := nI 3) dX11_goCall_124 rfl ?_
        first | refine ev_iaddN dX11_goCall_125 ?_ | refine ev_iadd dX11_goCall_125 ?_
        first | refine ev_rowN (f := 3) (F := 9) dX11_goCall_126 (by assumption) (by first | assumption | omega | exact ePp.ob (by assumption) | exact eNm.ob (by assumption) | exact eRg.ob (by assumption) | exact eTx.ob (by assumption) | exact ePa.ob (by assumption)) (by decide) rfl ?_ | refine ev_rowP (f := 3) (F := 4) dX11_goCall_126 (by assumption) (by first | assumption | omega | exact ePp.ob (by assumption) | exact eNm.ob (by assumption) | exact eRg.ob (by assumption) | exact eTx.ob (by assumption) | exact ePa.ob (by assumption)) (by decide) rfl ?_ | refine ev_ialoadA dX11_goCall_126 (by first | assumption | omega | exact ePp.ob (by assumption) | exact eNm.ob (by assumption) | exact eRg.ob (by assumption) | exact eTx.ob (by assumption) | exact ePa.ob (by assumption)) (by first | assumption | omega | exact ePp.ob (by assumption) | exact eNm.ob (by assumption) | exact eRg.ob (by assumption) | exact eTx.ob (by assumption) | exact ePa.ob (by assumption)) ?_
        exact ev_iret dX11_goCall_127 rfl rfl (by exact oRx (sMns_y hk)) (by first | exact ⟨by rw [sGoC_y hk, sUse_s c_51 c_65]; exact hA, FR⟩ | exact ⟨by rw [sGoC_y hk, sUse_x (fun z => c_51 z.1)]; exact hA, FR⟩ | exact ⟨by rw [sGoC_y hk, sUse_x (fun z => absurd z.2 (by omega))]; exact hA, FR⟩) (fun _ e => Option.some.inj e) (Nat.le_of_ble_eq_true rfl) (Nat.le_of_ble_eq_true rfl)
      · refine ev_iconst (v := nI 1) dX11_goCall_68 rfl ?_
        refine ev_goto (tgt := 73) dX11_goCall_69 (by decide) ?_
        refine ev_istore dX11_goCall_73 (Nat.le_of_ble_eq_true rfl) ?_
        refine ev_aload_n dX11_goCall_75 rfl rfl ?_
        refine ev_iload dX11_goCall_76 rfl ?_
        refine ev_bipush (v := nI 6) dX11_goCall_78 rfl ?_
        first | refine ev_iaddN dX11_goCall_80 ?_ | refine ev_iadd dX11_goCall_80 ?_
        refine ev_iload dX11_goCall_81 rfl ?_
        refine ev_if_eqN (tgt := 90) dX11_goCall_83 (by decide) (by decide) (fun c => absurd c (by decide)) (fun _ => ?_)
        refine ev_iconst (v := nI 1) dX11_goCall_86 rfl ?_
        refine ev_goto (tgt := 97) dX11_goCall_87 (by decide) ?_
        first | refine ev_rowsetN (f := 6) (F := 12) dX11_goCall_97 (by assumption) (by first | assumption | omega | exact ePp.ob (by assumption) | exact eNm.ob (by assumption) | exact eRg.ob (by assumption) | exact eTx.ob (by assumption) | exact ePa.ob (by assumption)) (by decide) rfl (fun g_97 fr_97 w_97 => ?_)
        replace hA := w_97
        first | replace FR := eFr.trans FR (eFr.one fr_97 (by omega) (by omega)) | replace FR := eFr.trans FR (eFr.wide fr_97 (by omega) (by omega))
        refine ev_aload_n dX11_goCall_98 rfl rfl ?_
        refine ev_iload dX11_goCall_99 rfl ?_
        refine ev_bipush (v := nI 7) dX11_goCall_101 rfl ?_
        first | refine ev_iaddN dX11_goCall_103 ?_ | refine ev_iadd dX11_goCall_103 ?_
        refine ev_iload dX11_goCall_104 rfl ?_
        refine ev_if_eqN (tgt := 113) dX11_goCall_106 (by decide) (by decide) (fun c => absurd c (by decide)) (fun _ => ?_)
        refine ev_iconst (v := nI 1) dX11_goCall_109 rfl ?_
        refine ev_goto (tgt := 120) dX11_goCall_110 (by decide) ?_
        first | refine ev_rowsetN (f := 7) (F := 13) dX11_goCall_120 (by assumption) (by first | assumption | omega | exact ePp.ob (by assumption) | exact eNm.ob (by assumption) | exact eRg.ob (by assumption) | exact eTx.ob (by assumption) | exact ePa.ob (by assumption)) (by decide) rfl (fun g_120 fr_120 w_120 => ?_)
        replace hA := w_120
        first | replace FR := eFr.trans FR (eFr.one fr_120 (by omega) (by omega)) | replace FR := eFr.trans FR (eFr.wide fr_120 (by omega) (by omega))
        refine ev_aload_n dX11_goCall_121 rfl rfl ?_
        refine ev_iload dX11_goCall_122 rfl ?_
        refine ev_iconst (v := nI 3) dX11_goCall_124 rfl ?_
        first | refine ev_iaddN dX11_goCall_125 ?_ | refine ev_iadd dX11_goCall_125 ?_
        first | refine ev_rowN (f := 3) (F := 9) dX11_goCall_126 (by assumption) (by first | assumption | omega | exact ePp.ob (by assumption) | exact eNm.ob (by assumption) | exact eRg.ob (by assumption) | exact eTx.ob (by assumption) | exact ePa.ob (by assumption)) (by decide) rfl ?_ | refine ev_rowP (f := 3) (F := 4) dX11_goCall_126 (by assumption) (by first | assumption | omega | exact ePp.ob (by assumption) | exact eNm.ob (by assumption) | exact eRg.ob (by assumption) | exact eTx.ob (by assumption) | exact ePa.ob (by assumption)) (by decide) rfl ?_ | refine ev_ialoadA dX11_goCall_126 (by first | assumption | omega | exact ePp.ob (by assumption) | exact eNm.ob (by assumption) | exact eRg.ob (by assumption) | exact eTx.ob (by assumption) | exact ePa.ob (by assumption)) (by first | assumption | omega | exact ePp.ob (by assumption) | exact eNm.ob (by assumption) | exact eRg.ob (by assumption) | exact eTx.ob (by assumption) | exact ePa.ob (by assumption)) ?_
        exact ev_iret dX11_goCall_127 rfl rfl (by exact oRx (sMns_y hk)) (by first | exact ⟨by rw [sGoC_y hk, sUse_s c_51 c_65]; exact hA, FR⟩ | exact ⟨by rw [sGoC_y hk, sUse_x (fun z => c_51 z.1)]; exact hA, FR⟩ | exact ⟨by rw [sGoC_y hk, sUse_x (fun z => absurd z.2 (by omega))]; exact hA, FR⟩) (fun _ e => Option.some.inj e) (Nat.le_of_ble_eq_true rfl) (Nat.le_of_ble_eq_true rfl)
theorem sOutgrow_n {σ : St} {k : Nat} (h : sHeirOf σ k = none) : sOutgrow σ k = su σ 12 k 3 := by unfold sOutgrow; rw [h]
theorem sOutgrow_y {σ : St} {k q : Nat} (h1 : σ 12 k = 1) (h2 : σ 0 1 ≤ 40) (h3 : σ 0 1 ≠ 40) (hq : sHeir σ (σ 9 k) = some q) : sOutgrow σ k = sAddN (su σ 12 k 4) (σ 9 k) q (σ 6 k) (σ 7 k) (σ 0 2) := by
  unfold sOutgrow
  rw [show sHeirOf σ k = some q from (if_pos ⟨h1, by omega⟩).trans hq]
theorem sHeirOf_n {σ : St} {k : Nat} (h : sHeir σ (σ 9 k) = none) : sHeirOf σ k = none := by
  unfold sHeirOf
  split
  · exact h
  · rfl
theorem sHeirOf_40 {σ : St} {k : Nat} (h : σ 0 1 = 40) : sHeirOf σ k = none := if_neg (fun z => z.2 (by omega))
set_option maxHeartbeats 4000000 in
set_option maxRecDepth 20000 in
theorem c_X11_outgrow {h : eH} {n a k : Nat} {σ : St} (hA : eRow h a σ) (hK : eOK σ) (hk : k < σ 0 1) : kX11_outgrow [.ref a, .int (nI k)] h n (.inl none, (fun g' => eRow g' a (sOutgrow σ k) ∧ eFr h g' a (a + 1)), some n) 0 0 := by
  refine eM.of RX11 "outgrow" [(0, .ref a), (1, .int (nI k))] pn_X11 rfl rfl (Nat.le_of_ble_eq_true rfl) rfl ?_
  have hB : eB σ := hK.1
  have h12 := hK.2.1
  have h40 := hK.2.2.1
  have h9 := (hK.2.2.2.1 k hk).1
  have FR : eFr h h a (a + 1) := eFr.rf
  refine ev_iload_n dX11_outgrow_0 rfl rfl ?_
  refine ev_callSi dX11_outgrow_1 c_X11_spot lk_X11_61 ⟨Nat.le_of_ble_eq_true rfl, Nat.le_of_ble_eq_true rfl⟩ rfl (Nat.le_of_ble_eq_true rfl) ⟨by first | exact Nat.le_of_ble_eq_true rfl | omega, by first | exact Nat.le_of_ble_eq_true rfl | omega⟩ (eRo ?_)
  refine ev_istore_n dX11_outgrow_4 rfl (Nat.le_of_ble_eq_true rfl) ?_
  refine ev_aload_n dX11_outgrow_5 rfl rfl ?_
  refine ev_iload_n dX11_outgrow_6 rfl rfl ?_
  refine ev_bipush (v := nI 6) dX11_outgrow_7 rfl ?_
  first | refine ev_iaddN dX11_outgrow_9 ?_ | refine ev_iadd dX11_outgrow_9 ?_
  first | refine ev_rowN (f := 6) (F := 12) dX11_outgrow_10 (by assumption) (by first | assumption | omega | exact ePp.ob (by assumption) | exact eNm.ob (by assumption) | exact eRg.ob (by assumption) | exact eTx.ob (by assumption) | exact ePa.ob (by assumption)) (by decide) rfl ?_ | refine ev_ialoadA dX11_outgrow_10 (by first | assumption | omega | exact ePp.ob (by assumption) | exact eNm.ob (by assumption) | exact eRg.ob (by assumption) | exact eTx.ob (by assumption) | exact ePa.ob (by assumption)) (by first | assumption | omega | exact ePp.ob (by assumption) | exact eNm.ob (by assumption) | exact eRg.ob (by assumption) | exact eTx.ob (by assumption) | exact ePa.ob (by assumption)) ?_
  refine ev_iconst (v := nI 1) dX11_outgrow_11 rfl ?_
  first | ((with_reducible show eV _ _ _ (Value.int (nI _) :: Value.int (nI _) :: _) _ _ _ _); refine ev_icmp_neN (tgt := 27) dX11_outgrow_12 (by decide) (by first | omega | exact hB _ _) (by first | omega | exact hB _ _) (fun c_12 => ?_) (fun c_12 => ?_)) | ((with_reducible show eV _ _ _ (Value.int (-1) :: Value.int (oI _) :: _) _ _ _ _); refine ev_icmp_neO (tgt := 27) dX11_outgrow_12 (by decide) (by first | (intro k9 h9; have := sHeirTo_lt h9; omega)) (fun c_12 => ?_) (fun c_12 => ?_)) | ((with_reducible show eV _ _ _ (Value.int (nI _) :: Value.int (oI _) :: _) _ _ _ _); refine ev_icmp_neON (tgt := 27) dX11_outgrow_12 (by decide) (by first | omega | exact hB _ _) (by first | (intro k9 h9; have := sHeirTo_lt h9; omega)) (fun c_12 => ?_) (fun c_12 => ?_)) | ((with_reducible show eV _ _ _ (Value.int (nI _) :: _) _ _ _ _); refine ev_icmp_neZN (tgt := 27) dX11_outgrow_12 (by decide) (by first | omega | exact hB _ _) (fun c_12 => ?_) (fun c_12 => ?_)) | ((with_reducible show eV _ _ _ (_ :: Value.int (nI _) :: _) _ _ _ _); refine ev_icmp_neNZ (tgt := 27) dX11_outgrow_12 (by decide) (by first | omega | exact hB _ _) (fun c_12 => ?_) (fun c_12 => ?_)) | (refine ev_icmp_neZZ (tgt := 27) dX11_outgrow_12 (by decide) (fun c_12 => ?_) (fun c_12 => ?_))
  · refine ev_iconst (v := -1) dX11_outgrow_27 (by decide) ?_
    refine ev_istore_n dX11_outgrow_28 rfl (Nat.le_of_ble_eq_true rfl) ?_
    refine ev_iload_n dX11_outgrow_29 rfl rfl ?_
    refine ev_iconst (v := -1) dX11_outgrow_30 (by decide) ?_
    refine ev_icmp_eqZZ (tgt := 44) dX11_outgrow_31 (by decide) (fun _ => ?_) (fun c => absurd rfl c)
    refine ev_aload_n dX11_outgrow_44 rfl rfl ?_
    refine ev_iload_n dX11_outgrow_45 rfl rfl ?_
    refine ev_bipush (v := nI 6) dX11_outgrow_46 rfl ?_
    first | refine ev_iaddN dX11_outgrow_48 ?_ | refine ev_iadd dX11_outgrow_48 ?_
    refine ev_iconst (v := nI 3) dX11_outgrow_49 rfl ?_
    first | refine ev_rowsetN (f := 6) (F := 12) dX11_outgrow_50 (by assumption) (by first | assumption | omega | exact ePp.ob (by assumption) | exact eNm.ob (by assumption) | exact eRg.ob (by assumption) | exact eTx.ob (by assumption) | exact ePa.ob (by assumption)) (by decide) rfl (fun g_50 fr_50 w_50 => ?_)
    replace hA := w_50
    first | replace FR := eFr.trans FR (eFr.one fr_50 (by omega) (by omega)) | replace FR := eFr.trans FR (eFr.wide fr_50 (by omega) (by omega))
    exact ev_vret dX11_outgrow_51 rfl rfl (by first | exact ⟨by rw [sOutgrow_n (sHeirOf_a c_12).symm]; exact hA, FR⟩ | exact ⟨by rw [sOutgrow_n (sHeirOf_n c_31)]; exact hA, FR⟩ | exact ⟨by rw [sOutgrow_n (sHeirOf_40 c_41)]; exact hA, FR⟩) (fun _ e => Option.some.inj e) (Nat.le_of_ble_eq_true rfl) (Nat.le_of_ble_eq_true rfl)
  · refine ev_aload_n dX11_outgrow_15 rfl rfl ?_
    refine ev_aload_n dX11_outgrow_16 rfl rfl ?_
    refine ev_iload_n dX11_outgrow_17 rfl rfl ?_
    refine ev_iconst (v := nI 3) dX11_outgrow_18 rfl ?_
    first | refine ev_iaddN dX11_outgrow_19 ?_ | refine ev_iadd dX11_outgrow_19 ?_
    first | refine ev_rowN (f := 3) (F := 9) dX11_outgrow_20 (by assumption) (by first | assumption | omega | exact ePp.ob (by assumption) | exact eNm.ob (by assumption) | exact eRg.ob (by assumption) | exact eTx.ob (by assumption) | exact ePa.ob (by assumption)) (by decide) rfl ?_ | refine ev_rowP (f := 3) (F := 4) dX11_outgrow_20 (by assumption) (by first | assumption | omega | exact ePp.ob (by assumption) | exact eNm.ob (by assumption) | exact eRg.ob (by assumption) | exact eTx.ob (by assumption) | exact ePa.ob (by assumption)) (by decide) rfl ?_ | refine ev_ialoadA dX11_outgrow_20 (by first | assumption | omega | exact ePp.ob (by assumption) | exact eNm.ob (by assumption) | exact eRg.ob (by assumption) | exact eTx.ob (by assumption) | exact ePa.ob (by assumption)) (by first | assumption | omega | exact ePp.ob (by assumption) | exact eNm.ob (by assumption) | exact eRg.ob (by assumption) | exact eTx.ob (by assumption) | exact ePa.ob (by assumption)) ?_
    refine ev_callSi dX11_outgrow_21 (c_X11_heir hA hK (by omega)) lk_X11_101 ⟨Nat.le_of_ble_eq_true rfl, Nat.le_of_ble_eq_true rfl⟩ rfl (Nat.le_of_ble_eq_true rfl) ⟨by first | exact Nat.le_of_ble_eq_true rfl | omega, by first | exact Nat.le_of_ble_eq_true rfl | omega⟩ (eRo ?_)
    refine ev_goto (tgt := 28) dX11_outgrow_24 (by decide) ?_
    refine ev_istore_n dX11_outgrow_28 rfl (Nat.le_of_ble_eq_true rfl) ?_
    refine ev_iload_n dX11_outgrow_29 rfl rfl ?_
    refine ev_iconst (v := -1) dX11_outgrow_30 (by decide) ?_
    first | ((with_reducible show eV _ _ _ (Value.int (nI _) :: Value.int (nI _) :: _) _ _ _ _); refine ev_icmp_eqN (tgt := 44) dX11_outgrow_31 (by decide) (by first | omega | exact hB _ _) (by first | omega | exact hB _ _) (fun c_31 => ?_) (fun c_31 => ?_)) | ((with_reducible show eV _ _ _ (Value.int (-1) :: Value.int (oI _) :: _) _ _ _ _); refine ev_icmp_eqO (tgt := 44) dX11_outgrow_31 (by decide) (by first | (intro k9 h9; have := sHeirTo_lt h9; omega)) (fun c_31 => ?_) (fun c_31 => ?_)) | ((with_reducible show eV _ _ _ (Value.int (oI _) :: Value.int (nI _) :: _) _ _ _ _); refine ev_icmp_eqNO (tgt := 44) dX11_outgrow_31 (by decide) (by first | omega | exact hB _ _) (by first | (intro k9 h9; have := sHeirTo_lt h9; omega)) (fun c_31 => ?_) (fun c_31 => ?_)) | ((with_reducible show eV _ _ _ (Value.int (nI _) :: Value.int (oI _) :: _) _ _ _ _); refine ev_icmp_eqON (tgt := 44) dX11_outgrow_31 (by decide) (by first | omega | exact hB _ _) (by first | (intro k9 h9; have := sHeirTo_lt h9; omega)) (fun c_31 => ?_) (fun c_31 => ?_)) | ((with_reducible show eV _ _ _ (Value.int (nI _) :: _) _ _ _ _); refine ev_icmp_eqZN (tgt := 44) dX11_outgrow_31 (by decide) (by first | omega | exact hB _ _) (fun c_31 => ?_) (fun c_31 => ?_)) | ((with_reducible show eV _ _ _ (_ :: Value.int (nI _) :: _) _ _ _ _); refine ev_icmp_eqNZ (tgt := 44) dX11_outgrow_31 (by decide) (by first | omega | exact hB _ _) (fun c_31 => ?_) (fun c_31 => ?_)) | (refine ev_icmp_eqZZ (tgt := 44) dX11_outgrow_31 (by decide) (fun c_31 => ?_) (fun c_31 => ?_))
    · refine ev_aload_n dX11_outgrow_44 rfl rfl ?_
      refine ev_iload_n dX11_outgrow_45 rfl rfl ?_
      refine ev_bipush (v := nI 6) dX11_outgrow_46 rfl ?_
      first | refine ev_iaddN dX11_outgrow_48 ?_ | refine ev_iadd dX11_outgrow_48 ?_
      refine ev_iconst (v := nI 3) dX11_outgrow_49 rfl ?_
      first | refine ev_rowsetN (f := 6) (F := 12) dX11_outgrow_50 (by assumption) (by first | assumption | omega | exact ePp.ob (by assumption) | exact eNm.ob (by assumption) | exact eRg.ob (by assumption) | exact eTx.ob (by assumption) | exact ePa.ob (by assumption)) (by decide) rfl (fun g_50 fr_50 w_50 => ?_)
      replace hA := w_50
      first | replace FR := eFr.trans FR (eFr.one fr_50 (by omega) (by omega)) | replace FR := eFr.trans FR (eFr.wide fr_50 (by omega) (by omega))
      exact ev_vret dX11_outgrow_51 rfl rfl (by first | exact ⟨by rw [sOutgrow_n (sHeirOf_a c_12).symm]; exact hA, FR⟩ | exact ⟨by rw [sOutgrow_n (sHeirOf_n c_31)]; exact hA, FR⟩ | exact ⟨by rw [sOutgrow_n (sHeirOf_40 c_41)]; exact hA, FR⟩) (fun _ e => Option.some.inj e) (Nat.le_of_ble_eq_true rfl) (Nat.le_of_ble_eq_true rfl)
    · refine ev_aload_n dX11_outgrow_34 rfl rfl ?_
      refine ev_sipush (v := nI 381) dX11_outgrow_35 rfl ?_
      first | refine ev_rowG (f := 0) (j := 1) dX11_outgrow_38 (by assumption) (Nat.le_of_ble_eq_true rfl) (fun _ => rfl) ?_ | refine ev_ialoadA dX11_outgrow_38 (by first | assumption | omega | exact ePp.ob (by assumption) | exact eNm.ob (by assumption) | exact eRg.ob (by assumption) | exact eTx.ob (by assumption) | exact ePa.ob (by assumption)) (by first | assumption | omega | exact ePp.ob (by assumption) | exact eNm.ob (by assumption) | exact eRg.ob (by assumption) | exact eTx.ob (by assumption) | exact ePa.ob (by assumption)) ?_
      refine ev_bipush (v := nI 40) dX11_outgrow_39 rfl ?_
      first | ((with_reducible show eV _ _ _ (Value.int (nI _) :: Value.int (nI _) :: _) _ _ _ _); refine ev_icmp_neN (tgt := 52) dX11_outgrow_41 (by decide) (by first | omega | exact hB _ _) (by first | omega | exact hB _ _) (fun c_41 => ?_) (fun c_41 => ?_)) | ((with_reducible show eV _ _ _ (Value.int (-1) :: Value.int (oI _) :: _) _ _ _ _); refine ev_icmp_neO (tgt := 52) dX11_outgrow_41 (by decide) (by first | (intro k9 h9; have := sHeirTo_lt h9; omega)) (fun c_41 => ?_) (fun c_41 => ?_)) | ((with_reducible show eV _ _ _ (Value.int (nI _) :: Value.int (oI _) :: _) _ _ _ _); refine ev_icmp_neON (tgt := 52) dX11_outgrow_41 (by decide) (by first | omega | exact hB _ _) (by first | (intro k9 h9; have := sHeirTo_lt h9; omega)) (fun c_41 => ?_) (fun c_41 => ?_)) | ((with_reducible show eV _ _ _ (Value.int (nI _) :: _) _ _ _ _); refine ev_icmp_neZN (tgt := 52) dX11_outgrow_41 (by decide) (by first | omega | exact hB _ _) (fun c_41 => ?_) (fun c_41 => ?_)) | ((with_reducible show eV _ _ _ (_ :: Value.int (nI _) :: _) _ _ _ _); refine ev_icmp_neNZ (tgt := 52) dX11_outgrow_41 (by decide) (by first | omega | exact hB _ _) (fun c_41 => ?_) (fun c_41 => ?_)) | (refine ev_icmp_neZZ (tgt := 52) dX11_outgrow_41 (by decide) (fun c_41 => ?_) (fun c_41 => ?_))
      · obtain ⟨q, hq⟩ := Option.ne_none_iff_exists'.mp c_31
        rw [hq, show oI (some q) = nI q from rfl]
        refine ev_aload_n dX11_outgrow_52 rfl rfl ?_
        refine ev_iload_n dX11_outgrow_53 rfl rfl ?_
        refine ev_bipush (v := nI 6) dX11_outgrow_54 rfl ?_
        first | refine ev_iaddN dX11_outgrow_56 ?_ | refine ev_iadd dX11_outgrow_56 ?_
        refine ev_iconst (v := nI 4) dX11_outgrow_57 rfl ?_
        first | refine ev_rowsetN (f := 6) (F := 12) dX11_outgrow_58 (by assumption) (by first | assumption | omega | exact ePp.ob (by assumption) | exact eNm.ob (by assumption) | exact eRg.ob (by assumption) | exact eTx.ob (by assumption) | exact ePa.ob (by assumption)) (by decide) rfl (fun g_58 fr_58 w_58 => ?_)
        replace hA := w_58
        first | replace FR := eFr.trans FR (eFr.one fr_58 (by omega) (by omega)) | replace FR := eFr.trans FR (eFr.wide fr_58 (by omega) (by omega))
        refine ev_aload_n dX11_outgrow_59 rfl rfl ?_
        refine ev_aload_n dX11_outgrow_60 rfl rfl ?_
        refine ev_iload_n dX11_outgrow_61 rfl rfl ?_
        refine ev_iconst (v := nI 3) dX11_outgrow_62 rfl ?_
        first | refine ev_iaddN dX11_outgrow_63 ?_ | refine ev_iadd dX11_outgrow_63 ?_
        first | refine ev_rowN (f := 3) (F := 9) dX11_outgrow_64 (by assumption) (by first | assumption | omega | exact ePp.ob (by assumption) | exact eNm.ob (by assumption) | exact eRg.ob (by assumption) | exact eTx.ob (by assumption) | exact ePa.ob (by assumption)) (by decide) rfl ?_ | refine ev_rowP (f := 3) (F := 4) dX11_outgrow_64 (by assumption) (by first | assumption | omega | exact ePp.ob (by assumption) | exact eNm.ob (by assumption) | exact eRg.ob (by assumption) | exact eTx.ob (by assumption) | exact ePa.ob (by assumption)) (by decide) rfl ?_ | refine ev_ialoadA dX11_outgrow_64 (by first | assumption | omega | exact ePp.ob (by assumption) | exact eNm.ob (by assumption) | exact eRg.ob (by assumption) | exact eTx.ob (by assumption) | exact ePa.ob (by assumption)) (by first | assumption | omega | exact ePp.ob (by assumption) | exact eNm.ob (by assumption) | exact eRg.ob (by assumption) | exact eTx.ob (by assumption) | exact ePa.ob (by assumption)) ?_
        refine ev_iload_n dX11_outgrow_65 rfl rfl ?_
        refine ev_aload_n dX11_outgrow_66 rfl rfl ?_
        refine ev_iload_n dX11_outgrow_67 rfl rfl ?_
        refine ev_iconst (v := nI 0) dX11_outgrow_68 rfl ?_
        first | refine ev_iaddN dX11_outgrow_69 ?_ | refine ev_iadd dX11_outgrow_69 ?_
        first | refine ev_rowN (f := 0) (F := 6) dX11_outgrow_70 (by assumption) (by first | assumption | omega | exact ePp.ob (by assumption) | exact eNm.ob (by assumption) | exact eRg.ob (by assumption) | exact eTx.ob (by assumption) | exact ePa.ob (by assumption)) (by decide) rfl ?_ | refine ev_rowP (f := 0) (F := 1) dX11_outgrow_70 (by assumption) (by first | assumption | omega | exact ePp.ob (by assumption) | exact eNm.ob (by assumption) | exact eRg.ob (by assumption) | exact eTx.ob (by assumption) | exact ePa.ob (by assumption)) (by decide) rfl ?_ | refine ev_ialoadA dX11_outgrow_70 (by first | assumption | omega | exact ePp.ob (by assumption) | exact eNm.ob (by assumption) | exact eRg.ob (by assumption) | exact eTx.ob (by assumption) | exact ePa.ob (by assumption)) (by first | assumption | omega | exact ePp.ob (by assumption) | exact eNm.ob (by assumption) | exact eRg.ob (by assumption) | exact eTx.ob (by assumption) | exact ePa.ob (by assumption)) ?_
        refine ev_aload_n dX11_outgrow_71 rfl rfl ?_
        refine ev_iload_n dX11_outgrow_72 rfl rfl ?_
        refine ev_iconst (v := nI 1) dX11_outgrow_73 rfl ?_
        first | refine ev_iaddN dX11_outgrow_74 ?_ | refine ev_iadd dX11_outgrow_74 ?_
        first | refine ev_rowN (f := 1) (F := 7) dX11_outgrow_75 (by assumption) (by first | assumption | omega | exact ePp.ob (by assumption) | exact eNm.ob (by assumption) | exact eRg.ob (by assumption) | exact eTx.ob (by assumption) | exact ePa.ob (by assumption)) (by decide) rfl ?_ | refine ev_rowP (f := 1) (F := 2) dX11_outgrow_75 (by assumption) (by first | assumption | omega | exact ePp.ob (by assumption) | exact eNm.ob (by assumption) | exact eRg.ob (by assumption) | exact eTx.ob (by assumption) | exact ePa.ob (by assumption)) (by decide) rfl ?_ | refine ev_ialoadA dX11_outgrow_75 (by first | assumption | omega | exact ePp.ob (by assumption) | exact eNm.ob (by assumption) | exact eRg.ob (by assumption) | exact eTx.ob (by assumption) | exact ePa.ob (by assumption)) (by first | assumption | omega | exact ePp.ob (by assumption) | exact eNm.ob (by assumption) | exact eRg.ob (by assumption) | exact eTx.ob (by assumption) | exact ePa.ob (by assumption)) ?_
        refine ev_callSv dX11_outgrow_76 (c_X11_add hA (show σ 0 1 < 40 by omega)) lk_X11_90 ⟨Nat.le_of_ble_eq_true rfl, Nat.le_of_ble_eq_true rfl⟩ rfl (Nat.le_of_ble_eq_true rfl) ⟨by first | exact Nat.le_of_ble_eq_true rfl | omega, by first | exact Nat.le_of_ble_eq_true rfl | omega⟩ (fun g_76 hg_76 => ?_)
        obtain ⟨w_76, fr_76⟩ := hg_76
        replace hA := w_76
        first | replace FR := eFr.trans FR (eFr.one fr_76 (by omega) (by omega)) | replace FR := eFr.trans FR (eFr.wide fr_76 (by omega) (by omega))
        exact ev_vret dX11_outgrow_79 rfl rfl (by exact ⟨by rw [sOutgrow_y c_12 h40 c_41 hq]; exact hA, FR⟩) (fun _ e => Option.some.inj e) (Nat.le_of_ble_eq_true rfl) (Nat.le_of_ble_eq_true rfl)
      · refine ev_aload_n dX11_outgrow_44 rfl rfl ?_
        refine ev_iload_n dX11_outgrow_45 rfl rfl ?_
        refine ev_bipush (v := nI 6) dX11_outgrow_46 rfl ?_
        first | refine ev_iaddN dX11_outgrow_48 ?_ | refine ev_iadd dX11_outgrow_48 ?_
        refine ev_iconst (v := nI 3) dX11_outgrow_49 rfl ?_
        first | refine ev_rowsetN (f := 6) (F := 12) dX11_outgrow_50 (by assumption) (by first | assumption | omega | exact ePp.ob (by assumption) | exact eNm.ob (by assumption) | exact eRg.ob (by assumption) | exact eTx.ob (by assumption) | exact ePa.ob (by assumption)) (by decide) rfl (fun g_50 fr_50 w_50 => ?_)
        replace hA := w_50
        first | replace FR := eFr.trans FR (eFr.one fr_50 (by omega) (by omega)) | replace FR := eFr.trans FR (eFr.wide fr_50 (by omega) (by omega))
        exact ev_vret dX11_outgrow_51 rfl rfl (by first | exact ⟨by rw [sOutgrow_n (sHeirOf_a c_12).symm]; exact hA, FR⟩ | exact ⟨by rw [sOutgrow_n (sHeirOf_n c_31)]; exact hA, FR⟩ | exact ⟨by rw [sOutgrow_n (sHeirOf_40 c_41)]; exact hA, FR⟩) (fun _ e => Option.some.inj e) (Nat.le_of_ble_eq_true rfl) (Nat.le_of_ble_eq_true rfl)

