set_option maxHeartbeats 4000000 in
set_option maxRecDepth 20000 in
theorem c_X11_tens {h : eH} {n m : Nat} (hm : m < 2 ^ 31) : kX11_tens [.int (nI m)] h n (.inl (some (.long (lN (10 ^ m)))), (· = h), some n) 0 0 := by
  refine eM.of RX11 "tens" [(0, .int (nI m))] pn_X11 rfl rfl (Nat.le_of_ble_eq_true rfl) rfl ?_
  refine ev_lconst (v := lN 1) dX11_tens_0 rfl ?_
  refine ev_lstore_n dX11_tens_1 rfl (Nat.le_of_ble_eq_true rfl) ?_
  refine ev_iconst (v := nI 0) dX11_tens_2 rfl ?_
  refine ev_istore_n dX11_tens_3 rfl (Nat.le_of_ble_eq_true rfl) ?_
  have H_4 : ∀ (d_4 : Nat) (k : Nat), d_4 = m - k → (k ≤ m) → eV mX11_tens 4 [(0, .int (nI m)), (1, .long (lN (10 ^ k))), (3, .int (nI k))] [] (h, n, 0, 0) (.inl (some (.long (lN (10 ^ m)))), (· = h), some n) 0 0 := by
    intro d_4
    induction d_4 using Nat.strongRecOn with
    | _ d_4 ih_4 =>
    intro k hd_4 hk
    refine ev_iload_n dX11_tens_4 rfl rfl ?_
    refine ev_iload_n dX11_tens_5 rfl rfl ?_
    first | ((with_reducible show eV _ _ _ (Value.int (nI _) :: Value.int (nI _) :: _) _ _ _ _); refine ev_icmp_geN (tgt := 21) dX11_tens_6 (by decide) (by first | exact hB _ _ | omega) (by first | exact hB _ _ | omega) (fun c_6 => ?_) (fun c_6 => ?_)) | ((with_reducible show eV _ _ _ (Value.int (nI _) :: _) _ _ _ _); refine ev_icmp_geZN (tgt := 21) dX11_tens_6 (by decide) (by first | exact hB _ _ | omega) (fun c_6 => ?_) (fun c_6 => ?_)) | ((with_reducible show eV _ _ _ (_ :: Value.int (nI _) :: _) _ _ _ _); refine ev_icmp_geNZ (tgt := 21) dX11_tens_6 (by decide) (by first | exact hB _ _ | omega) (fun c_6 => ?_) (fun c_6 => ?_)) | (refine ev_icmp_geZZ (tgt := 21) dX11_tens_6 (by decide) (fun c_6 => ?_) (fun c_6 => ?_))
    · refine ev_lload_n dX11_tens_21 rfl rfl ?_
      exact ev_lret dX11_tens_22 rfl (by have e : k = m := (by omega); rw [e]) (by rfl) (fun _ e => by first | exact Option.some.inj e | (have e2 := Option.some.inj e; omega)) (by first | exact Nat.le_of_ble_eq_true rfl | omega) (by first | exact Nat.le_of_ble_eq_true rfl | omega)
    · refine ev_lload_n dX11_tens_9 rfl rfl ?_
      refine ev_ldc2 (v := lN 10) dX11_tens_10 wq_X11_43 ?_
      refine ev_lmul dX11_tens_13 ?_
      rw [lN_mul]
      refine ev_lstore_n dX11_tens_14 rfl (Nat.le_of_ble_eq_true rfl) ?_
      first | refine ev_iincN dX11_tens_15 rfl (Nat.le_of_ble_eq_true rfl) ?_ | refine ev_iinc dX11_tens_15 rfl rfl (Nat.le_of_ble_eq_true rfl) ?_
      refine ev_goto (tgt := 4) dX11_tens_18 (by decide) ?_
      exact (ih_4 _ (by omega) _  rfl (by first | omega | assumption | rfl)).sub1 ⟨rfl, rfl, rfl, trivial⟩ rfl
  exact (H_4 _ 0 rfl (by first | omega | assumption | rfl)).sub1 ⟨rfl, rfl, rfl, trivial⟩ rfl
theorem p6 (m : Nat) : 10 ^ (6 * m) = 1000000 ^ m := by rw [Nat.pow_mul]
theorem sGd.scr {σ : St} {T : Nat} (h : sGd σ) (hI : eIv σ T) (s m : Nat) : ∀ i, sGd (sScr σ s m i)
  | 0 => h
  | i + 1 => (h.scr hI s m i).run (hI.scr i)
theorem lN_ne0 {a : Nat} (h0 : 0 < a) (h : a < 2 ^ 63) : ¬ lN a = 0 := by
  intro e
  have h2 : (lN a).toInt = (0 : Int64).toInt := by rw [e]
  rw [lN_Z h, show (0 : Int64).toInt = 0 by decide] at h2
  omega
set_option maxHeartbeats 4000000 in
set_option maxRecDepth 20000 in
theorem c_X11_runScript {h : eH} {n m bad ℓ c mm s T : Nat} {σ : St} {x : Nat → Nat} {τ τs : Nat → St} {us : Nat → Nat} (hO : eMo h m bad σ x ℓ c τ us τs) (hI : eIv σ T) (hT29 : T < 2 ^ 29) (hG : sGd σ) (hm : 1 ≤ mm ∧ mm ≤ 3) (hs : s < 1000000 ^ mm) : kX11_runScript [.ref m, .int (nI mm), .long (lN s)] h n (.inl (some (.int (oI (sScrQ σ s mm)))), (fun g' => eMo g' m 0 σ x ℓ c τ us τs ∧ eFr h g' m (m + 9)), some n) 0 0 := by
  refine eM.of RX11 "runScript" [(0, .ref m), (1, .int (nI mm)), (2, .long (lN s))] pn_X11 rfl rfl (Nat.le_of_ble_eq_true rfl) rfl ?_
  obtain ⟨⟨ap, gd, lo, lr, hM⟩, hN, ⟨ρ, hT⟩, ⟨υ, hR⟩, hBk, hKp, ⟨hU, hu⟩, ⟨H, hH⟩, hX, hx⟩ := id hO
  have FR : eFr h h m (m + 9) := eFr.rf
  have hm3 : 1000000 ^ mm ≤ 1000000 ^ 3 := Nat.pow_le_pow_right (by decide) hm.2
  have hs63 : s < 2 ^ 63 := Nat.lt_of_lt_of_le hs (Nat.le_trans hm3 (by decide))
  have hm63 : 1000000 ^ mm < 2 ^ 63 := Nat.lt_of_le_of_lt hm3 (by decide)
  have hp1 : 0 < 1000000 ^ mm := Nat.pow_pos (by decide)
  refine ev_aload_n dX11_runScript_0 rfl rfl ?_
  refine ev_iload_n dX11_runScript_1 rfl rfl ?_
  refine ev_i2l dX11_runScript_2 rfl ?_
  refine ev_lconst (v := lN 1) dX11_runScript_3 rfl ?_
  refine ev_ldc2 dX11_runScript_4 wq_X11_49 ?_
  refine ev_callSi dX11_runScript_7 c_X11_in lk_X11_45 ⟨Nat.le_of_ble_eq_true rfl, Nat.le_of_ble_eq_true rfl⟩ rfl (Nat.le_of_ble_eq_true rfl) ⟨by first | exact Nat.le_of_ble_eq_true rfl | omega, by first | exact Nat.le_of_ble_eq_true rfl | omega⟩ (eRo ?_)
  rw [i2lZ, lN_Z (by decide), show (3 : Int64).toInt = 3 by decide, nI_toInt (by omega)]
  first | ((with_reducible show eV _ _ _ (Value.int (bI _) :: _) _ _ _ _); refine ev_if_eqB (tgt := 34) dX11_runScript_10 (by decide) (fun c_10 => ?_) (fun c_10 => ?_)) | ((with_reducible show eV _ _ _ (Value.int (nI _) :: _) _ _ _ _); refine ev_if_eqN (tgt := 34) dX11_runScript_10 (by decide) (by omega) (fun c_10 => ?_) (fun c_10 => ?_)) | (refine ev_if_eqZ (tgt := 34) dX11_runScript_10 (by decide) (fun c_10 => ?_) (fun c_10 => ?_))
  · exact absurd (of_decide_eq_false c_10) (by omega)
  · refine ev_lload_n dX11_runScript_13 rfl rfl ?_
    refine ev_lconst (v := lN 0) dX11_runScript_14 rfl ?_
    refine ev_bipush (v := nI 6) dX11_runScript_15 rfl ?_
    refine ev_iload_n dX11_runScript_17 rfl rfl ?_
    first | refine ev_imulN dX11_runScript_18 ?_ | refine ev_imul dX11_runScript_18 ?_
    refine ev_callSi dX11_runScript_19 (c_X11_tens (by omega)) lk_X11_285 ⟨Nat.le_of_ble_eq_true rfl, Nat.le_of_ble_eq_true rfl⟩ rfl (Nat.le_of_ble_eq_true rfl) ⟨by first | exact Nat.le_of_ble_eq_true rfl | omega, by first | exact Nat.le_of_ble_eq_true rfl | omega⟩ (eRo ?_)
    refine ev_lconst (v := lN 1) dX11_runScript_22 rfl ?_
    refine ev_lsub dX11_runScript_23 ?_
    rw [p6, lN_sub (by omega)]
    refine ev_callSi dX11_runScript_24 c_X11_in lk_X11_45 ⟨Nat.le_of_ble_eq_true rfl, Nat.le_of_ble_eq_true rfl⟩ rfl (Nat.le_of_ble_eq_true rfl) ⟨by first | exact Nat.le_of_ble_eq_true rfl | omega, by first | exact Nat.le_of_ble_eq_true rfl | omega⟩ (eRo ?_)
    rw [lN_Z (by decide), lN_Z hs63, lN_Z (show 1000000 ^ mm - 1 < 2 ^ 63 by omega)]
    first | ((with_reducible show eV _ _ _ (Value.int (bI _) :: _) _ _ _ _); refine ev_if_eqB (tgt := 34) dX11_runScript_27 (by decide) (fun c_27 => ?_) (fun c_27 => ?_)) | ((with_reducible show eV _ _ _ (Value.int (nI _) :: _) _ _ _ _); refine ev_if_eqN (tgt := 34) dX11_runScript_27 (by decide) (by omega) (fun c_27 => ?_) (fun c_27 => ?_)) | (refine ev_if_eqZ (tgt := 34) dX11_runScript_27 (by decide) (fun c_27 => ?_) (fun c_27 => ?_))
    · exact absurd (of_decide_eq_false c_27) (by omega)
    · refine ev_iconst (v := nI 0) dX11_runScript_30 rfl ?_
      refine ev_goto (tgt := 35) dX11_runScript_31 (by decide) ?_
      refine ev_callVi dX11_runScript_35 (c_X11_refused (w := 0) hM (by decide)) rfl lk_X11_120 (by first | assumption | omega | exact ePp.ob (by assumption) | exact eNm.ob (by assumption) | exact eRg.ob (by assumption) | exact eTx.ob (by assumption) | exact ePa.ob (by assumption) | exact eMB.ob (by assumption)) ⟨Nat.le_of_ble_eq_true rfl, Nat.le_of_ble_eq_true rfl⟩ rfl (Nat.le_of_ble_eq_true rfl) ⟨by first | exact Nat.le_of_ble_eq_true rfl | omega, by first | exact Nat.le_of_ble_eq_true rfl | omega⟩ (fun g_35 hg_35 => ?_)
      obtain ⟨w_35, fr_35⟩ := hg_35
      replace hM := w_35
      first | replace hN := eRow.fr hN (fr_35 _ (by omega)) | replace hN := eMB.fr hN (fr_35 _ (by omega)) | replace hN := eArr.fr hN (fr_35 _ (by omega)) | replace hN := Eq.trans (fr_35 _ (by omega)) hN | replace hN := eBo.fr hN (fr_35 _ (by omega)) | replace hN := ePp.fr1 hN (fun a _ _ => fr_35 a (by omega)) | replace hN := eNm.fr1 hN (fun a _ _ => fr_35 a (by omega)) | replace hN := eRg.fr hN (fun a _ _ => fr_35 a (by omega)) | replace hN := eTx.fr hN (fun a _ _ => fr_35 a (by omega)) | replace hN := ePa.fr hN (fun a _ _ => fr_35 a (by omega)) | replace hN := eRf.fr hN (fr_35 _ (by omega)) | replace hN := eSl.fr hN (fun a _ _ => fr_35 a (by omega)) | replace hN := eSe.fr hN (fun a _ _ => fr_35 a (by omega)) | replace hN := z_35 hN | replace hN := z_35
      first | replace hT := eRow.fr hT (fr_35 _ (by omega)) | replace hT := eMB.fr hT (fr_35 _ (by omega)) | replace hT := eArr.fr hT (fr_35 _ (by omega)) | replace hT := Eq.trans (fr_35 _ (by omega)) hT | replace hT := eBo.fr hT (fr_35 _ (by omega)) | replace hT := ePp.fr1 hT (fun a _ _ => fr_35 a (by omega)) | replace hT := eNm.fr1 hT (fun a _ _ => fr_35 a (by omega)) | replace hT := eRg.fr hT (fun a _ _ => fr_35 a (by omega)) | replace hT := eTx.fr hT (fun a _ _ => fr_35 a (by omega)) | replace hT := ePa.fr hT (fun a _ _ => fr_35 a (by omega)) | replace hT := eRf.fr hT (fr_35 _ (by omega)) | replace hT := eSl.fr hT (fun a _ _ => fr_35 a (by omega)) | replace hT := eSe.fr hT (fun a _ _ => fr_35 a (by omega)) | replace hT := z_35 hT | replace hT := z_35
      first | replace hR := eRow.fr hR (fr_35 _ (by omega)) | replace hR := eMB.fr hR (fr_35 _ (by omega)) | replace hR := eArr.fr hR (fr_35 _ (by omega)) | replace hR := Eq.trans (fr_35 _ (by omega)) hR | replace hR := eBo.fr hR (fr_35 _ (by omega)) | replace hR := ePp.fr1 hR (fun a _ _ => fr_35 a (by omega)) | replace hR := eNm.fr1 hR (fun a _ _ => fr_35 a (by omega)) | replace hR := eRg.fr hR (fun a _ _ => fr_35 a (by omega)) | replace hR := eTx.fr hR (fun a _ _ => fr_35 a (by omega)) | replace hR := ePa.fr hR (fun a _ _ => fr_35 a (by omega)) | replace hR := eRf.fr hR (fr_35 _ (by omega)) | replace hR := eSl.fr hR (fun a _ _ => fr_35 a (by omega)) | replace hR := eSe.fr hR (fun a _ _ => fr_35 a (by omega)) | replace hR := z_35 hR | replace hR := z_35
      first | replace hBk := eRow.fr hBk (fr_35 _ (by omega)) | replace hBk := eMB.fr hBk (fr_35 _ (by omega)) | replace hBk := eArr.fr hBk (fr_35 _ (by omega)) | replace hBk := Eq.trans (fr_35 _ (by omega)) hBk | replace hBk := eBo.fr hBk (fr_35 _ (by omega)) | replace hBk := ePp.fr1 hBk (fun a _ _ => fr_35 a (by omega)) | replace hBk := eNm.fr1 hBk (fun a _ _ => fr_35 a (by omega)) | replace hBk := eRg.fr hBk (fun a _ _ => fr_35 a (by omega)) | replace hBk := eTx.fr hBk (fun a _ _ => fr_35 a (by omega)) | replace hBk := ePa.fr hBk (fun a _ _ => fr_35 a (by omega)) | replace hBk := eRf.fr hBk (fr_35 _ (by omega)) | replace hBk := eSl.fr hBk (fun a _ _ => fr_35 a (by omega)) | replace hBk := eSe.fr hBk (fun a _ _ => fr_35 a (by omega)) | replace hBk := z_35 hBk | replace hBk := z_35
      first | replace hKp := eRow.fr hKp (fr_35 _ (by omega)) | replace hKp := eMB.fr hKp (fr_35 _ (by omega)) | replace hKp := eArr.fr hKp (fr_35 _ (by omega)) | replace hKp := Eq.trans (fr_35 _ (by omega)) hKp | replace hKp := eBo.fr hKp (fr_35 _ (by omega)) | replace hKp := ePp.fr1 hKp (fun a _ _ => fr_35 a (by omega)) | replace hKp := eNm.fr1 hKp (fun a _ _ => fr_35 a (by omega)) | replace hKp := eRg.fr hKp (fun a _ _ => fr_35 a (by omega)) | replace hKp := eTx.fr hKp (fun a _ _ => fr_35 a (by omega)) | replace hKp := ePa.fr hKp (fun a _ _ => fr_35 a (by omega)) | replace hKp := eRf.fr hKp (fr_35 _ (by omega)) | replace hKp := eSl.fr hKp (fun a _ _ => fr_35 a (by omega)) | replace hKp := eSe.fr hKp (fun a _ _ => fr_35 a (by omega)) | replace hKp := z_35 hKp | replace hKp := z_35
      first | replace hU := eRow.fr hU (fr_35 _ (by omega)) | replace hU := eMB.fr hU (fr_35 _ (by omega)) | replace hU := eArr.fr hU (fr_35 _ (by omega)) | replace hU := Eq.trans (fr_35 _ (by omega)) hU | replace hU := eBo.fr hU (fr_35 _ (by omega)) | replace hU := ePp.fr1 hU (fun a _ _ => fr_35 a (by omega)) | replace hU := eNm.fr1 hU (fun a _ _ => fr_35 a (by omega)) | replace hU := eRg.fr hU (fun a _ _ => fr_35 a (by omega)) | replace hU := eTx.fr hU (fun a _ _ => fr_35 a (by omega)) | replace hU := ePa.fr hU (fun a _ _ => fr_35 a (by omega)) | replace hU := eRf.fr hU (fr_35 _ (by omega)) | replace hU := eSl.fr hU (fun a _ _ => fr_35 a (by omega)) | replace hU := eSe.fr hU (fun a _ _ => fr_35 a (by omega)) | replace hU := z_35 hU | replace hU := z_35
      first | replace hH := eRow.fr hH (fr_35 _ (by omega)) | replace hH := eMB.fr hH (fr_35 _ (by omega)) | replace hH := eArr.fr hH (fr_35 _ (by omega)) | replace hH := Eq.trans (fr_35 _ (by omega)) hH | replace hH := eBo.fr hH (fr_35 _ (by omega)) | replace hH := ePp.fr1 hH (fun a _ _ => fr_35 a (by omega)) | replace hH := eNm.fr1 hH (fun a _ _ => fr_35 a (by omega)) | replace hH := eRg.fr hH (fun a _ _ => fr_35 a (by omega)) | replace hH := eTx.fr hH (fun a _ _ => fr_35 a (by omega)) | replace hH := ePa.fr hH (fun a _ _ => fr_35 a (by omega)) | replace hH := eRf.fr hH (fr_35 _ (by omega)) | replace hH := eSl.fr hH (fun a _ _ => fr_35 a (by omega)) | replace hH := eSe.fr hH (fun a _ _ => fr_35 a (by omega)) | replace hH := z_35 hH | replace hH := z_35
      first | replace hX := eRow.fr hX (fr_35 _ (by omega)) | replace hX := eMB.fr hX (fr_35 _ (by omega)) | replace hX := eArr.fr hX (fr_35 _ (by omega)) | replace hX := Eq.trans (fr_35 _ (by omega)) hX | replace hX := eBo.fr hX (fr_35 _ (by omega)) | replace hX := ePp.fr1 hX (fun a _ _ => fr_35 a (by omega)) | replace hX := eNm.fr1 hX (fun a _ _ => fr_35 a (by omega)) | replace hX := eRg.fr hX (fun a _ _ => fr_35 a (by omega)) | replace hX := eTx.fr hX (fun a _ _ => fr_35 a (by omega)) | replace hX := ePa.fr hX (fun a _ _ => fr_35 a (by omega)) | replace hX := eRf.fr hX (fr_35 _ (by omega)) | replace hX := eSl.fr hX (fun a _ _ => fr_35 a (by omega)) | replace hX := eSe.fr hX (fun a _ _ => fr_35 a (by omega)) | replace hX := z_35 hX | replace hX := z_35
      first | replace FR := eFr.trans FR (eFr.one fr_35 (by omega) (by omega)) | replace FR := eFr.trans FR (eFr.wide fr_35 (by omega) (by omega)) | replace FR := eF2.a FR fr_35 | replace FR := eF2.b FR fr_35 | replace FR := eF2.c FR fr_35 | replace FR := eF2.t FR fr_35
      first | ((with_reducible show eV _ _ _ (Value.int (bI _) :: _) _ _ _ _); refine ev_if_eqB (tgt := 43) dX11_runScript_38 (by decide) (fun c_38 => ?_) (fun c_38 => ?_)) | ((with_reducible show eV _ _ _ (Value.int (nI _) :: _) _ _ _ _); refine ev_if_eqN (tgt := 43) dX11_runScript_38 (by decide) (by omega) (fun c_38 => ?_) (fun c_38 => ?_)) | (refine ev_if_eqZ (tgt := 43) dX11_runScript_38 (by decide) (fun c_38 => ?_) (fun c_38 => ?_))
      · refine ev_aload_n dX11_runScript_43 rfl rfl ?_
        refine ev_getfield dX11_runScript_44 fl_X11_7 (by first | assumption | omega | exact ePp.ob (by assumption) | exact eNm.ob (by assumption) | exact eRg.ob (by assumption) | exact eTx.ob (by assumption) | exact ePa.ob (by assumption) | exact eMB.ob (by assumption)) rfl ?_
        refine ev_aload_n dX11_runScript_47 rfl rfl ?_
        refine ev_getfield dX11_runScript_48 fl_X11_13 (by first | assumption | omega | exact ePp.ob (by assumption) | exact eNm.ob (by assumption) | exact eRg.ob (by assumption) | exact eTx.ob (by assumption) | exact ePa.ob (by assumption) | exact eMB.ob (by assumption)) rfl ?_
        refine ev_callSv dX11_runScript_51 (c_X11_copy hN hT (by omega)) lk_X11_217 ⟨Nat.le_of_ble_eq_true rfl, Nat.le_of_ble_eq_true rfl⟩ rfl (Nat.le_of_ble_eq_true rfl) ⟨by first | exact Nat.le_of_ble_eq_true rfl | omega, by first | exact Nat.le_of_ble_eq_true rfl | omega⟩ (fun g_51 hg_51 => ?_)
        obtain ⟨w_51, fr_51⟩ := hg_51
        first | replace hM := eRow.fr hM (fr_51 _ (by omega)) | replace hM := eMB.fr hM (fr_51 _ (by omega)) | replace hM := eArr.fr hM (fr_51 _ (by omega)) | replace hM := Eq.trans (fr_51 _ (by omega)) hM | replace hM := eBo.fr hM (fr_51 _ (by omega)) | replace hM := ePp.fr1 hM (fun a _ _ => fr_51 a (by omega)) | replace hM := eNm.fr1 hM (fun a _ _ => fr_51 a (by omega)) | replace hM := eRg.fr hM (fun a _ _ => fr_51 a (by omega)) | replace hM := eTx.fr hM (fun a _ _ => fr_51 a (by omega)) | replace hM := ePa.fr hM (fun a _ _ => fr_51 a (by omega)) | replace hM := eRf.fr hM (fr_51 _ (by omega)) | replace hM := eSl.fr hM (fun a _ _ => fr_51 a (by omega)) | replace hM := eSe.fr hM (fun a _ _ => fr_51 a (by omega)) | replace hM := z_51 hM | replace hM := z_51
        first | replace hN := eRow.fr hN (fr_51 _ (by omega)) | replace hN := eMB.fr hN (fr_51 _ (by omega)) | replace hN := eArr.fr hN (fr_51 _ (by omega)) | replace hN := Eq.trans (fr_51 _ (by omega)) hN | replace hN := eBo.fr hN (fr_51 _ (by omega)) | replace hN := ePp.fr1 hN (fun a _ _ => fr_51 a (by omega)) | replace hN := eNm.fr1 hN (fun a _ _ => fr_51 a (by omega)) | replace hN := eRg.fr hN (fun a _ _ => fr_51 a (by omega)) | replace hN := eTx.fr hN (fun a _ _ => fr_51 a (by omega)) | replace hN := ePa.fr hN (fun a _ _ => fr_51 a (by omega)) | replace hN := eRf.fr hN (fr_51 _ (by omega)) | replace hN := eSl.fr hN (fun a _ _ => fr_51 a (by omega)) | replace hN := eSe.fr hN (fun a _ _ => fr_51 a (by omega)) | replace hN := z_51 hN | replace hN := z_51
        replace hT := w_51
        first | replace hR := eRow.fr hR (fr_51 _ (by omega)) | replace hR := eMB.fr hR (fr_51 _ (by omega)) | replace hR := eArr.fr hR (fr_51 _ (by omega)) | replace hR := Eq.trans (fr_51 _ (by omega)) hR | replace hR := eBo.fr hR (fr_51 _ (by omega)) | replace hR := ePp.fr1 hR (fun a _ _ => fr_51 a (by omega)) | replace hR := eNm.fr1 hR (fun a _ _ => fr_51 a (by omega)) | replace hR := eRg.fr hR (fun a _ _ => fr_51 a (by omega)) | replace hR := eTx.fr hR (fun a _ _ => fr_51 a (by omega)) | replace hR := ePa.fr hR (fun a _ _ => fr_51 a (by omega)) | replace hR := eRf.fr hR (fr_51 _ (by omega)) | replace hR := eSl.fr hR (fun a _ _ => fr_51 a (by omega)) | replace hR := eSe.fr hR (fun a _ _ => fr_51 a (by omega)) | replace hR := z_51 hR | replace hR := z_51
        first | replace hBk := eRow.fr hBk (fr_51 _ (by omega)) | replace hBk := eMB.fr hBk (fr_51 _ (by omega)) | replace hBk := eArr.fr hBk (fr_51 _ (by omega)) | replace hBk := Eq.trans (fr_51 _ (by omega)) hBk | replace hBk := eBo.fr hBk (fr_51 _ (by omega)) | replace hBk := ePp.fr1 hBk (fun a _ _ => fr_51 a (by omega)) | replace hBk := eNm.fr1 hBk (fun a _ _ => fr_51 a (by omega)) | replace hBk := eRg.fr hBk (fun a _ _ => fr_51 a (by omega)) | replace hBk := eTx.fr hBk (fun a _ _ => fr_51 a (by omega)) | replace hBk := ePa.fr hBk (fun a _ _ => fr_51 a (by omega)) | replace hBk := eRf.fr hBk (fr_51 _ (by omega)) | replace hBk := eSl.fr hBk (fun a _ _ => fr_51 a (by omega)) | replace hBk := eSe.fr hBk (fun a _ _ => fr_51 a (by omega)) | replace hBk := z_51 hBk | replace hBk := z_51
        first | replace hKp := eRow.fr hKp (fr_51 _ (by omega)) | replace hKp := eMB.fr hKp (fr_51 _ (by omega)) | replace hKp := eArr.fr hKp (fr_51 _ (by omega)) | replace hKp := Eq.trans (fr_51 _ (by omega)) hKp | replace hKp := eBo.fr hKp (fr_51 _ (by omega)) | replace hKp := ePp.fr1 hKp (fun a _ _ => fr_51 a (by omega)) | replace hKp := eNm.fr1 hKp (fun a _ _ => fr_51 a (by omega)) | replace hKp := eRg.fr hKp (fun a _ _ => fr_51 a (by omega)) | replace hKp := eTx.fr hKp (fun a _ _ => fr_51 a (by omega)) | replace hKp := ePa.fr hKp (fun a _ _ => fr_51 a (by omega)) | replace hKp := eRf.fr hKp (fr_51 _ (by omega)) | replace hKp := eSl.fr hKp (fun a _ _ => fr_51 a (by omega)) | replace hKp := eSe.fr hKp (fun a _ _ => fr_51 a (by omega)) | replace hKp := z_51 hKp | replace hKp := z_51
        first | replace hU := eRow.fr hU (fr_51 _ (by omega)) | replace hU := eMB.fr hU (fr_51 _ (by omega)) | replace hU := eArr.fr hU (fr_51 _ (by omega)) | replace hU := Eq.trans (fr_51 _ (by omega)) hU | replace hU := eBo.fr hU (fr_51 _ (by omega)) | replace hU := ePp.fr1 hU (fun a _ _ => fr_51 a (by omega)) | replace hU := eNm.fr1 hU (fun a _ _ => fr_51 a (by omega)) | replace hU := eRg.fr hU (fun a _ _ => fr_51 a (by omega)) | replace hU := eTx.fr hU (fun a _ _ => fr_51 a (by omega)) | replace hU := ePa.fr hU (fun a _ _ => fr_51 a (by omega)) | replace hU := eRf.fr hU (fr_51 _ (by omega)) | replace hU := eSl.fr hU (fun a _ _ => fr_51 a (by omega)) | replace hU := eSe.fr hU (fun a _ _ => fr_51 a (by omega)) | replace hU := z_51 hU | replace hU := z_51
        first | replace hH := eRow.fr hH (fr_51 _ (by omega)) | replace hH := eMB.fr hH (fr_51 _ (by omega)) | replace hH := eArr.fr hH (fr_51 _ (by omega)) | replace hH := Eq.trans (fr_51 _ (by omega)) hH | replace hH := eBo.fr hH (fr_51 _ (by omega)) | replace hH := ePp.fr1 hH (fun a _ _ => fr_51 a (by omega)) | replace hH := eNm.fr1 hH (fun a _ _ => fr_51 a (by omega)) | replace hH := eRg.fr hH (fun a _ _ => fr_51 a (by omega)) | replace hH := eTx.fr hH (fun a _ _ => fr_51 a (by omega)) | replace hH := ePa.fr hH (fun a _ _ => fr_51 a (by omega)) | replace hH := eRf.fr hH (fr_51 _ (by omega)) | replace hH := eSl.fr hH (fun a _ _ => fr_51 a (by omega)) | replace hH := eSe.fr hH (fun a _ _ => fr_51 a (by omega)) | replace hH := z_51 hH | replace hH := z_51
        first | replace hX := eRow.fr hX (fr_51 _ (by omega)) | replace hX := eMB.fr hX (fr_51 _ (by omega)) | replace hX := eArr.fr hX (fr_51 _ (by omega)) | replace hX := Eq.trans (fr_51 _ (by omega)) hX | replace hX := eBo.fr hX (fr_51 _ (by omega)) | replace hX := ePp.fr1 hX (fun a _ _ => fr_51 a (by omega)) | replace hX := eNm.fr1 hX (fun a _ _ => fr_51 a (by omega)) | replace hX := eRg.fr hX (fun a _ _ => fr_51 a (by omega)) | replace hX := eTx.fr hX (fun a _ _ => fr_51 a (by omega)) | replace hX := ePa.fr hX (fun a _ _ => fr_51 a (by omega)) | replace hX := eRf.fr hX (fr_51 _ (by omega)) | replace hX := eSl.fr hX (fun a _ _ => fr_51 a (by omega)) | replace hX := eSe.fr hX (fun a _ _ => fr_51 a (by omega)) | replace hX := z_51 hX | replace hX := z_51
        first | replace FR := eFr.trans FR (eFr.one fr_51 (by omega) (by omega)) | replace FR := eFr.trans FR (eFr.wide fr_51 (by omega) (by omega)) | replace FR := eF2.a FR fr_51 | replace FR := eF2.b FR fr_51 | replace FR := eF2.c FR fr_51 | replace FR := eF2.t FR fr_51
        have hM0 := hM
        refine ev_iconst (v := nI 0) dX11_runScript_54 rfl ?_
        refine ev_istore dX11_runScript_55 (Nat.le_of_ble_eq_true rfl) ?_
        have H_57 : ∀ (d_57 : Nat) (i : Nat) (g : eH), d_57 = mm - i → (i ≤ mm) → (∀ j, j < i → (!(sRun (sScr σ s mm j) (sGrp s mm j)).2) = false) → (eRow g (m + 2) (sScr σ s mm i)) → (eFr g_51 g (m + 2) (m + 3)) → eV mX11_runScript 57 [(0, .ref m), (1, .int (nI mm)), (2, .long (lN s)), (4, .int (nI i))] [] (g, n, 0, 0) (.inl (some (.int (oI (sScrQ σ s mm)))), (fun g' => eMo g' m 0 σ x ℓ c τ us τs ∧ eFr h g' m (m + 9)), some n) 0 0 := by
          intro d_57
          induction d_57 using Nat.strongRecOn with
          | _ d_57 ih_57 =>
          intro i g hd_57 hi hn hT F2
          have hM := hM.fr (F2 _ (by omega))
          refine ev_iload dX11_runScript_57 rfl ?_
          refine ev_iload_n dX11_runScript_59 rfl rfl ?_
          first | ((with_reducible show eV _ _ _ (Value.int (nI _) :: Value.int (nI _) :: _) _ _ _ _); refine ev_icmp_geN (tgt := 98) dX11_runScript_60 (by decide) (by omega) (by omega) (fun c_60 => ?_) (fun c_60 => ?_)) | ((with_reducible show eV _ _ _ (Value.int (nI _) :: _) _ _ _ _); refine ev_icmp_geZN (tgt := 98) dX11_runScript_60 (by decide) (by omega) (fun c_60 => ?_) (fun c_60 => ?_)) | ((with_reducible show eV _ _ _ (_ :: Value.int (nI _) :: _) _ _ _ _); refine ev_icmp_geNZ (tgt := 98) dX11_runScript_60 (by decide) (by omega) (fun c_60 => ?_) (fun c_60 => ?_)) | (refine ev_icmp_geZZ (tgt := 98) dX11_runScript_60 (by decide) (fun c_60 => ?_) (fun c_60 => ?_))
          · refine ev_iconst (v := -1) dX11_runScript_98 (by decide) ?_
            exact ev_iret dX11_runScript_99 rfl rfl (by exact oRn (fst_none_of (fun j hj => hn j (by omega)))) (by exact ⟨⟨⟨_, _, _, _, hM0.fr (F2 _ (by omega))⟩, hN.fr (F2 _ (by omega)), ⟨_, hT⟩, ⟨_, hR.fr (F2 _ (by omega))⟩, eArr.fr hBk (F2 _ (by omega)), eArr.fr hKp (F2 _ (by omega)), ⟨hU.fr (F2 _ (by omega)), hu⟩, ⟨_, hH.fr (F2 _ (by omega))⟩, hX.fr (F2 _ (by omega)), hx⟩, FR.trans (F2.wide (by omega) (by omega))⟩) (fun _ e => by first | exact Option.some.inj e | (have e2 := Option.some.inj e; omega)) (by first | exact Nat.le_of_ble_eq_true rfl | omega) (by first | exact Nat.le_of_ble_eq_true rfl | omega)
          · have hJ := hI.scr (s := s) (m := mm) i
            have hJG := hG.scr hI s mm i
            refine ev_aload_n dX11_runScript_63 rfl rfl ?_
            have hpd : 0 < 1000000 ^ (mm - 1 - i) := Nat.pow_pos (by decide)
            have hpd2 : 1000000 ^ (mm - 1 - i) < 2 ^ 63 := Nat.lt_of_le_of_lt (Nat.pow_le_pow_right (by decide) (show mm - 1 - i ≤ 3 by omega)) (by decide)
            refine ev_lload_n dX11_runScript_64 rfl rfl ?_
            refine ev_bipush (v := nI 6) dX11_runScript_65 rfl ?_
            refine ev_iload_n dX11_runScript_67 rfl rfl ?_
            refine ev_iconst (v := nI 1) dX11_runScript_68 rfl ?_
            first | refine ev_isubN dX11_runScript_69 (by first | assumption | omega | exact ePp.ob (by assumption) | exact eNm.ob (by assumption) | exact eRg.ob (by assumption) | exact eTx.ob (by assumption) | exact ePa.ob (by assumption) | exact eMB.ob (by assumption)) ?_ | refine ev_isub dX11_runScript_69 ?_
            refine ev_iload dX11_runScript_70 rfl ?_
            first | refine ev_isubN dX11_runScript_72 (by first | assumption | omega | exact ePp.ob (by assumption) | exact eNm.ob (by assumption) | exact eRg.ob (by assumption) | exact eTx.ob (by assumption) | exact ePa.ob (by assumption) | exact eMB.ob (by assumption)) ?_ | refine ev_isub dX11_runScript_72 ?_
            first | refine ev_imulN dX11_runScript_73 ?_ | refine ev_imul dX11_runScript_73 ?_
            refine ev_callSi dX11_runScript_74 (c_X11_tens (by omega)) lk_X11_285 ⟨Nat.le_of_ble_eq_true rfl, Nat.le_of_ble_eq_true rfl⟩ rfl (Nat.le_of_ble_eq_true rfl) ⟨by first | exact Nat.le_of_ble_eq_true rfl | omega, by first | exact Nat.le_of_ble_eq_true rfl | omega⟩ (eRo ?_)
            rw [p6]
            refine ev_ldiv dX11_runScript_77 (lN_ne0 hpd hpd2) ?_
            rw [pk_lDiv hs63 hpd hpd2]
            refine ev_ldc2 (v := lN 1000000) dX11_runScript_78 wq_X11_289 ?_
            refine ev_lrem dX11_runScript_81 (by decide) ?_
            rw [pk_lRem (Nat.lt_of_le_of_lt (Nat.div_le_self _ _) hs63) (by decide) (by decide)]
            refine ev_l2i dX11_runScript_82 (lN_i _) ?_
            refine ev_callVi dX11_runScript_83 (c_X11_command (k := sGrp s mm i) hM hT hJ (by omega) hJG (sGrp_lt s mm i)) rfl lk_X11_291 (by first | assumption | omega | exact ePp.ob (by assumption) | exact eNm.ob (by assumption) | exact eRg.ob (by assumption) | exact eTx.ob (by assumption) | exact ePa.ob (by assumption) | exact eMB.ob (by assumption)) ⟨Nat.le_of_ble_eq_true rfl, Nat.le_of_ble_eq_true rfl⟩ rfl (Nat.le_of_ble_eq_true rfl) ⟨by first | exact Nat.le_of_ble_eq_true rfl | omega, by first | exact Nat.le_of_ble_eq_true rfl | omega⟩ (fun g_83 hg_83 => ?_)
            obtain ⟨⟨υ2, hT, hgo⟩, f83⟩ := hg_83
            replace F2 := F2.trans (f83.wide (by omega) (by omega))
            first | ((with_reducible show eV _ _ _ (Value.int (bI _) :: _) _ _ _ _); refine ev_if_neB (tgt := 92) dX11_runScript_86 (by decide) (fun c_86 => ?_) (fun c_86 => ?_)) | ((with_reducible show eV _ _ _ (Value.int (nI _) :: _) _ _ _ _); refine ev_if_neN (tgt := 92) dX11_runScript_86 (by decide) (by omega) (fun c_86 => ?_) (fun c_86 => ?_)) | (refine ev_if_neZ (tgt := 92) dX11_runScript_86 (by decide) (fun c_86 => ?_) (fun c_86 => ?_))
            · first | refine ev_iincN dX11_runScript_92 rfl (Nat.le_of_ble_eq_true rfl) ?_ | refine ev_iinc dX11_runScript_92 rfl rfl (Nat.le_of_ble_eq_true rfl) ?_
              refine ev_goto (tgt := 57) dX11_runScript_95 (by decide) ?_
              exact (ih_57 _ (by omega) (i + 1) _ rfl (by first | omega | assumption | rfl) (by exact fun j hj => (by rcases Nat.lt_or_ge j i with q | q; exact hn j q; have e : j = i := (by omega); rw [e, show (sRun (sScr σ s mm i) (sGrp s mm i)).2 = true from c_86]; rfl)) (by rw [show sScr σ s mm (i + 1) = υ2 from (hgo c_86).symm]; exact hT) (by first | omega | assumption | rfl)).sub1 ⟨rfl, rfl, rfl, rfl, trivial⟩ rfl
            · refine ev_iload dX11_runScript_89 rfl ?_
              exact ev_iret dX11_runScript_91 rfl rfl (by exact oRx (fst_of c_60 (by show (!(sRun (sScr σ s mm i) (sGrp s mm i)).2) = true; rw [show (sRun (sScr σ s mm i) (sGrp s mm i)).2 = false from c_86]; rfl) hn)) (by exact ⟨⟨⟨_, _, _, _, hM0.fr (F2 _ (by omega))⟩, hN.fr (F2 _ (by omega)), ⟨_, hT⟩, ⟨_, hR.fr (F2 _ (by omega))⟩, eArr.fr hBk (F2 _ (by omega)), eArr.fr hKp (F2 _ (by omega)), ⟨hU.fr (F2 _ (by omega)), hu⟩, ⟨_, hH.fr (F2 _ (by omega))⟩, hX.fr (F2 _ (by omega)), hx⟩, FR.trans (F2.wide (by omega) (by omega))⟩) (fun _ e => by first | exact Option.some.inj e | (have e2 := Option.some.inj e; omega)) (by first | exact Nat.le_of_ble_eq_true rfl | omega) (by first | exact Nat.le_of_ble_eq_true rfl | omega)
        exact (H_57 _ 0 g_51 rfl (by omega) (by exact fun j hj => absurd hj (Nat.not_lt_zero j)) (by exact hT) (by exact eFr.rf)).sub1 ⟨rfl, rfl, rfl, rfl, trivial⟩ rfl
      · exact absurd c_38 (by decide)
set_option maxHeartbeats 4000000 in
set_option maxRecDepth 20000 in
theorem c_X11_runScript_1 {h : eH} {n m bad ℓ c : Nat} {z : Int32} {y : Int64} {σ : St} {x : Nat → Nat} {τ τs : Nat → St} {us : Nat → Nat} (hO : eMo h m bad σ x ℓ c τ us τs) (hz : ¬ (1 ≤ z.toInt ∧ z.toInt < (4 : Nat))) : kX11_runScript [.ref m, .int z, .long y] h n (.inl (some (.int (nI 0))), (fun g' => eMo g' m 1 σ x ℓ c τ us τs ∧ eFr h g' m (m + 9)), some n) 0 0 := by
  refine eM.of RX11 "runScript" [(0, .ref m), (1, .int z), (2, .long y)] pn_X11 rfl rfl (Nat.le_of_ble_eq_true rfl) rfl ?_
  obtain ⟨⟨ap, gd, lo, lr, hM⟩, hN, ⟨ρ, hT⟩, ⟨υ, hR⟩, hBk, hKp, ⟨hU, hu⟩, ⟨H, hH⟩, hX, hx⟩ := id hO
  have FR : eFr h h m (m + 9) := eFr.rf
  refine ev_aload_n dX11_runScript_0 rfl rfl ?_
  refine ev_iload_n dX11_runScript_1 rfl rfl ?_
  refine ev_i2l dX11_runScript_2 rfl ?_
  refine ev_lconst (v := lN 1) dX11_runScript_3 rfl ?_
  refine ev_ldc2 dX11_runScript_4 wq_X11_49 ?_
  refine ev_callSi dX11_runScript_7 c_X11_in lk_X11_45 ⟨Nat.le_of_ble_eq_true rfl, Nat.le_of_ble_eq_true rfl⟩ rfl (Nat.le_of_ble_eq_true rfl) ⟨by first | exact Nat.le_of_ble_eq_true rfl | omega, by first | exact Nat.le_of_ble_eq_true rfl | omega⟩ (eRo ?_)
  rw [i2lZ, lN_Z (by decide), show (3 : Int64).toInt = 3 by decide]
  first | ((with_reducible show eV _ _ _ (Value.int (bI _) :: _) _ _ _ _); refine ev_if_eqB (tgt := 34) dX11_runScript_10 (by decide) (fun c_10 => ?_) (fun c_10 => ?_)) | ((with_reducible show eV _ _ _ (Value.int (nI _) :: _) _ _ _ _); refine ev_if_eqN (tgt := 34) dX11_runScript_10 (by decide) (by first | exact hB _ _ | omega) (fun c_10 => ?_) (fun c_10 => ?_)) | (refine ev_if_eqZ (tgt := 34) dX11_runScript_10 (by decide) (fun c_10 => ?_) (fun c_10 => ?_))
  · refine ev_iconst (v := nI 1) dX11_runScript_34 rfl ?_
    refine ev_callVi dX11_runScript_35 (c_X11_refused (w := 1) hM (by decide)) rfl lk_X11_120 (by first | assumption | omega | exact ePp.ob (by assumption) | exact eNm.ob (by assumption) | exact eRg.ob (by assumption) | exact eTx.ob (by assumption) | exact ePa.ob (by assumption) | exact eMB.ob (by assumption)) ⟨Nat.le_of_ble_eq_true rfl, Nat.le_of_ble_eq_true rfl⟩ rfl (Nat.le_of_ble_eq_true rfl) ⟨by first | exact Nat.le_of_ble_eq_true rfl | omega, by first | exact Nat.le_of_ble_eq_true rfl | omega⟩ (fun g_35 hg_35 => ?_)
    obtain ⟨w_35, fr_35⟩ := hg_35
    replace hM := w_35
    first | replace hN := eRow.fr hN (fr_35 _ (by omega)) | replace hN := eMB.fr hN (fr_35 _ (by omega)) | replace hN := eArr.fr hN (fr_35 _ (by omega)) | replace hN := Eq.trans (fr_35 _ (by omega)) hN | replace hN := eBo.fr hN (fr_35 _ (by omega)) | replace hN := ePp.fr1 hN (fun a _ _ => fr_35 a (by omega)) | replace hN := eNm.fr1 hN (fun a _ _ => fr_35 a (by omega)) | replace hN := eRg.fr hN (fun a _ _ => fr_35 a (by omega)) | replace hN := eTx.fr hN (fun a _ _ => fr_35 a (by omega)) | replace hN := ePa.fr hN (fun a _ _ => fr_35 a (by omega)) | replace hN := eRf.fr hN (fr_35 _ (by omega)) | replace hN := eSl.fr hN (fun a _ _ => fr_35 a (by omega)) | replace hN := eSe.fr hN (fun a _ _ => fr_35 a (by omega)) | replace hN := z_35 hN | replace hN := z_35
    first | replace hT := eRow.fr hT (fr_35 _ (by omega)) | replace hT := eMB.fr hT (fr_35 _ (by omega)) | replace hT := eArr.fr hT (fr_35 _ (by omega)) | replace hT := Eq.trans (fr_35 _ (by omega)) hT | replace hT := eBo.fr hT (fr_35 _ (by omega)) | replace hT := ePp.fr1 hT (fun a _ _ => fr_35 a (by omega)) | replace hT := eNm.fr1 hT (fun a _ _ => fr_35 a (by omega)) | replace hT := eRg.fr hT (fun a _ _ => fr_35 a (by omega)) | replace hT := eTx.fr hT (fun a _ _ => fr_35 a (by omega)) | replace hT := ePa.fr hT (fun a _ _ => fr_35 a (by omega)) | replace hT := eRf.fr hT (fr_35 _ (by omega)) | replace hT := eSl.fr hT (fun a _ _ => fr_35 a (by omega)) | replace hT := eSe.fr hT (fun a _ _ => fr_35 a (by omega)) | replace hT := z_35 hT | replace hT := z_35
    first | replace hR := eRow.fr hR (fr_35 _ (by omega)) | replace hR := eMB.fr hR (fr_35 _ (by omega)) | replace hR := eArr.fr hR (fr_35 _ (by omega)) | replace hR := Eq.trans (fr_35 _ (by omega)) hR | replace hR := eBo.fr hR (fr_35 _ (by omega)) | replace hR := ePp.fr1 hR (fun a _ _ => fr_35 a (by omega)) | replace hR := eNm.fr1 hR (fun a _ _ => fr_35 a (by omega)) | replace hR := eRg.fr hR (fun a _ _ => fr_35 a (by omega)) | replace hR := eTx.fr hR (fun a _ _ => fr_35 a (by omega)) | replace hR := ePa.fr hR (fun a _ _ => fr_35 a (by omega)) | replace hR := eRf.fr hR (fr_35 _ (by omega)) | replace hR := eSl.fr hR (fun a _ _ => fr_35 a (by omega)) | replace hR := eSe.fr hR (fun a _ _ => fr_35 a (by omega)) | replace hR := z_35 hR | replace hR := z_35
    first | replace hBk := eRow.fr hBk (fr_35 _ (by omega)) | replace hBk := eMB.fr hBk (fr_35 _ (by omega)) | replace hBk := eArr.fr hBk (fr_35 _ (by omega)) | replace hBk := Eq.trans (fr_35 _ (by omega)) hBk | replace hBk := eBo.fr hBk (fr_35 _ (by omega)) | replace hBk := ePp.fr1 hBk (fun a _ _ => fr_35 a (by omega)) | replace hBk := eNm.fr1 hBk (fun a _ _ => fr_35 a (by omega)) | replace hBk := eRg.fr hBk (fun a _ _ => fr_35 a (by omega)) | replace hBk := eTx.fr hBk (fun a _ _ => fr_35 a (by omega)) | replace hBk := ePa.fr hBk (fun a _ _ => fr_35 a (by omega)) | replace hBk := eRf.fr hBk (fr_35 _ (by omega)) | replace hBk := eSl.fr hBk (fun a _ _ => fr_35 a (by omega)) | replace hBk := eSe.fr hBk (fun a _ _ => fr_35 a (by omega)) | replace hBk := z_35 hBk | replace hBk := z_35
    first | replace hKp := eRow.fr hKp (fr_35 _ (by omega)) | replace hKp := eMB.fr hKp (fr_35 _ (by omega)) | replace hKp := eArr.fr hKp (fr_35 _ (by omega)) | replace hKp := Eq.trans (fr_35 _ (by omega)) hKp | replace hKp := eBo.fr hKp (fr_35 _ (by omega)) | replace hKp := ePp.fr1 hKp (fun a _ _ => fr_35 a (by omega)) | replace hKp := eNm.fr1 hKp (fun a _ _ => fr_35 a (by omega)) | replace hKp := eRg.fr hKp (fun a _ _ => fr_35 a (by omega)) | replace hKp := eTx.fr hKp (fun a _ _ => fr_35 a (by omega)) | replace hKp := ePa.fr hKp (fun a _ _ => fr_35 a (by omega)) | replace hKp := eRf.fr hKp (fr_35 _ (by omega)) | replace hKp := eSl.fr hKp (fun a _ _ => fr_35 a (by omega)) | replace hKp := eSe.fr hKp (fun a _ _ => fr_35 a (by omega)) | replace hKp := z_35 hKp | replace hKp := z_35
    first | replace hU := eRow.fr hU (fr_35 _ (by omega)) | replace hU := eMB.fr hU (fr_35 _ (by omega)) | replace hU := eArr.fr hU (fr_35 _ (by omega)) | replace hU := Eq.trans (fr_35 _ (by omega)) hU | replace hU := eBo.fr hU (fr_35 _ (by omega)) | replace hU := ePp.fr1 hU (fun a _ _ => fr_35 a (by omega)) | replace hU := eNm.fr1 hU (fun a _ _ => fr_35 a (by omega)) | replace hU := eRg.fr hU (fun a _ _ => fr_35 a (by omega)) | replace hU := eTx.fr hU (fun a _ _ => fr_35 a (by omega)) | replace hU := ePa.fr hU (fun a _ _ => fr_35 a (by omega)) | replace hU := eRf.fr hU (fr_35 _ (by omega)) | replace hU := eSl.fr hU (fun a _ _ => fr_35 a (by omega)) | replace hU := eSe.fr hU (fun a _ _ => fr_35 a (by omega)) | replace hU := z_35 hU | replace hU := z_35
    first | replace hH := eRow.fr hH (fr_35 _ (by omega)) | replace hH := eMB.fr hH (fr_35 _ (by omega)) | replace hH := eArr.fr hH (fr_35 _ (by omega)) | replace hH := Eq.trans (fr_35 _ (by omega)) hH | replace hH := eBo.fr hH (fr_35 _ (by omega)) | replace hH := ePp.fr1 hH (fun a _ _ => fr_35 a (by omega)) | replace hH := eNm.fr1 hH (fun a _ _ => fr_35 a (by omega)) | replace hH := eRg.fr hH (fun a _ _ => fr_35 a (by omega)) | replace hH := eTx.fr hH (fun a _ _ => fr_35 a (by omega)) | replace hH := ePa.fr hH (fun a _ _ => fr_35 a (by omega)) | replace hH := eRf.fr hH (fr_35 _ (by omega)) | replace hH := eSl.fr hH (fun a _ _ => fr_35 a (by omega)) | replace hH := eSe.fr hH (fun a _ _ => fr_35 a (by omega)) | replace hH := z_35 hH | replace hH := z_35
    first | replace hX := eRow.fr hX (fr_35 _ (by omega)) | replace hX := eMB.fr hX (fr_35 _ (by omega)) | replace hX := eArr.fr hX (fr_35 _ (by omega)) | replace hX := Eq.trans (fr_35 _ (by omega)) hX | replace hX := eBo.fr hX (fr_35 _ (by omega)) | replace hX := ePp.fr1 hX (fun a _ _ => fr_35 a (by omega)) | replace hX := eNm.fr1 hX (fun a _ _ => fr_35 a (by omega)) | replace hX := eRg.fr hX (fun a _ _ => fr_35 a (by omega)) | replace hX := eTx.fr hX (fun a _ _ => fr_35 a (by omega)) | replace hX := ePa.fr hX (fun a _ _ => fr_35 a (by omega)) | replace hX := eRf.fr hX (fr_35 _ (by omega)) | replace hX := eSl.fr hX (fun a _ _ => fr_35 a (by omega)) | replace hX := eSe.fr hX (fun a _ _ => fr_35 a (by omega)) | replace hX := z_35 hX | replace hX := z_35
    first | replace FR := eFr.trans FR (eFr.one fr_35 (by omega) (by omega)) | replace FR := eFr.trans FR (eFr.wide fr_35 (by omega) (by omega)) | replace FR := eF2.a FR fr_35 | replace FR := eF2.b FR fr_35 | replace FR := eF2.c FR fr_35 | replace FR := eF2.t FR fr_35
    first | ((with_reducible show eV _ _ _ (Value.int (bI _) :: _) _ _ _ _); refine ev_if_eqB (tgt := 43) dX11_runScript_38 (by decide) (fun c_38 => ?_) (fun c_38 => ?_)) | ((with_reducible show eV _ _ _ (Value.int (nI _) :: _) _ _ _ _); refine ev_if_eqN (tgt := 43) dX11_runScript_38 (by decide) (by first | exact hB _ _ | omega) (fun c_38 => ?_) (fun c_38 => ?_)) | (refine ev_if_eqZ (tgt := 43) dX11_runScript_38 (by decide) (fun c_38 => ?_) (fun c_38 => ?_))
    · exact absurd c_38 (by decide)
    · refine ev_iconst (v := nI 0) dX11_runScript_41 rfl ?_
      exact ev_iret dX11_runScript_42 rfl rfl (by rfl) (by exact ⟨⟨⟨_, _, _, _, hM⟩, hN, ⟨_, hT⟩, ⟨_, hR⟩, hBk, hKp, ⟨hU, hu⟩, ⟨_, hH⟩, hX, hx⟩, FR⟩) (fun _ e => Option.some.inj e) (Nat.le_of_ble_eq_true rfl) (Nat.le_of_ble_eq_true rfl)
  · exact absurd (of_decide_eq_true c_10) (by omega)
set_option maxHeartbeats 4000000 in
set_option maxRecDepth 20000 in
theorem c_X11_runScript_2 {h : eH} {n m bad ℓ c mm : Nat} {y : Int64} {σ : St} {x : Nat → Nat} {τ τs : Nat → St} {us : Nat → Nat} (hO : eMo h m bad σ x ℓ c τ us τs) (hm : 1 ≤ mm ∧ mm ≤ 3) (hy : ¬ (0 ≤ y.toInt ∧ y.toInt < ((1000000 ^ mm : Nat) : Int))) : kX11_runScript [.ref m, .int (nI mm), .long y] h n (.inl (some (.int (nI 0))), (fun g' => eMo g' m 1 σ x ℓ c τ us τs ∧ eFr h g' m (m + 9)), some n) 0 0 := by
  refine eM.of RX11 "runScript" [(0, .ref m), (1, .int (nI mm)), (2, .long y)] pn_X11 rfl rfl (Nat.le_of_ble_eq_true rfl) rfl ?_
  obtain ⟨⟨ap, gd, lo, lr, hM⟩, hN, ⟨ρ, hT⟩, ⟨υ, hR⟩, hBk, hKp, ⟨hU, hu⟩, ⟨H, hH⟩, hX, hx⟩ := id hO
  have FR : eFr h h m (m + 9) := eFr.rf
  have hm3 : 1000000 ^ mm ≤ 1000000 ^ 3 := Nat.pow_le_pow_right (by decide) hm.2
  have hm63 : 1000000 ^ mm < 2 ^ 63 := Nat.lt_of_le_of_lt hm3 (by decide)
  have hp1 : 0 < 1000000 ^ mm := Nat.pow_pos (by decide)
  refine ev_aload_n dX11_runScript_0 rfl rfl ?_
  refine ev_iload_n dX11_runScript_1 rfl rfl ?_
  refine ev_i2l dX11_runScript_2 rfl ?_
  refine ev_lconst (v := lN 1) dX11_runScript_3 rfl ?_
  refine ev_ldc2 dX11_runScript_4 wq_X11_49 ?_
  refine ev_callSi dX11_runScript_7 c_X11_in lk_X11_45 ⟨Nat.le_of_ble_eq_true rfl, Nat.le_of_ble_eq_true rfl⟩ rfl (Nat.le_of_ble_eq_true rfl) ⟨by first | exact Nat.le_of_ble_eq_true rfl | omega, by first | exact Nat.le_of_ble_eq_true rfl | omega⟩ (eRo ?_)
  rw [i2lZ, lN_Z (by decide), show (3 : Int64).toInt = 3 by decide, nI_toInt (by omega)]
  first | ((with_reducible show eV _ _ _ (Value.int (bI _) :: _) _ _ _ _); refine ev_if_eqB (tgt := 34) dX11_runScript_10 (by decide) (fun c_10 => ?_) (fun c_10 => ?_)) | ((with_reducible show eV _ _ _ (Value.int (nI _) :: _) _ _ _ _); refine ev_if_eqN (tgt := 34) dX11_runScript_10 (by decide) (by first | exact hB _ _ | omega) (fun c_10 => ?_) (fun c_10 => ?_)) | (refine ev_if_eqZ (tgt := 34) dX11_runScript_10 (by decide) (fun c_10 => ?_) (fun c_10 => ?_))
  · exact absurd (of_decide_eq_false c_10) (by omega)
  · refine ev_lload_n dX11_runScript_13 rfl rfl ?_
    refine ev_lconst (v := lN 0) dX11_runScript_14 rfl ?_
    refine ev_bipush (v := nI 6) dX11_runScript_15 rfl ?_
    refine ev_iload_n dX11_runScript_17 rfl rfl ?_
    first | refine ev_imulN dX11_runScript_18 ?_ | refine ev_imul dX11_runScript_18 ?_
    refine ev_callSi dX11_runScript_19 (c_X11_tens (by omega)) lk_X11_285 ⟨Nat.le_of_ble_eq_true rfl, Nat.le_of_ble_eq_true rfl⟩ rfl (Nat.le_of_ble_eq_true rfl) ⟨by first | exact Nat.le_of_ble_eq_true rfl | omega, by first | exact Nat.le_of_ble_eq_true rfl | omega⟩ (eRo ?_)
    refine ev_lconst (v := lN 1) dX11_runScript_22 rfl ?_
    refine ev_lsub dX11_runScript_23 ?_
    rw [p6, lN_sub (by omega)]
    refine ev_callSi dX11_runScript_24 c_X11_in lk_X11_45 ⟨Nat.le_of_ble_eq_true rfl, Nat.le_of_ble_eq_true rfl⟩ rfl (Nat.le_of_ble_eq_true rfl) ⟨by first | exact Nat.le_of_ble_eq_true rfl | omega, by first | exact Nat.le_of_ble_eq_true rfl | omega⟩ (eRo ?_)
    rw [lN_Z (by decide), lN_Z (show 1000000 ^ mm - 1 < 2 ^ 63 by omega)]
    first | ((with_reducible show eV _ _ _ (Value.int (bI _) :: _) _ _ _ _); refine ev_if_eqB (tgt := 34) dX11_runScript_27 (by decide) (fun c_27 => ?_) (fun c_27 => ?_)) | ((with_reducible show eV _ _ _ (Value.int (nI _) :: _) _ _ _ _); refine ev_if_eqN (tgt := 34) dX11_runScript_27 (by decide) (by first | exact hB _ _ | omega) (fun c_27 => ?_) (fun c_27 => ?_)) | (refine ev_if_eqZ (tgt := 34) dX11_runScript_27 (by decide) (fun c_27 => ?_) (fun c_27 => ?_))
    · refine ev_iconst (v := nI 1) dX11_runScript_34 rfl ?_
      refine ev_callVi dX11_runScript_35 (c_X11_refused (w := 1) hM (by decide)) rfl lk_X11_120 (by first | assumption | omega | exact ePp.ob (by assumption) | exact eNm.ob (by assumption) | exact eRg.ob (by assumption) | exact eTx.ob (by assumption) | exact ePa.ob (by assumption) | exact eMB.ob (by assumption)) ⟨Nat.le_of_ble_eq_true rfl, Nat.le_of_ble_eq_true rfl⟩ rfl (Nat.le_of_ble_eq_true rfl) ⟨by first | exact Nat.le_of_ble_eq_true rfl | omega, by first | exact Nat.le_of_ble_eq_true rfl | omega⟩ (fun g_35 hg_35 => ?_)
      obtain ⟨w_35, fr_35⟩ := hg_35
      replace hM := w_35
      first | replace hN := eRow.fr hN (fr_35 _ (by omega)) | replace hN := eMB.fr hN (fr_35 _ (by omega)) | replace hN := eArr.fr hN (fr_35 _ (by omega)) | replace hN := Eq.trans (fr_35 _ (by omega)) hN | replace hN := eBo.fr hN (fr_35 _ (by omega)) | replace hN := ePp.fr1 hN (fun a _ _ => fr_35 a (by omega)) | replace hN := eNm.fr1 hN (fun a _ _ => fr_35 a (by omega)) | replace hN := eRg.fr hN (fun a _ _ => fr_35 a (by omega)) | replace hN := eTx.fr hN (fun a _ _ => fr_35 a (by omega)) | replace hN := ePa.fr hN (fun a _ _ => fr_35 a (by omega)) | replace hN := eRf.fr hN (fr_35 _ (by omega)) | replace hN := eSl.fr hN (fun a _ _ => fr_35 a (by omega)) | replace hN := eSe.fr hN (fun a _ _ => fr_35 a (by omega)) | replace hN := z_35 hN | replace hN := z_35
      first | replace hT := eRow.fr hT (fr_35 _ (by omega)) | replace hT := eMB.fr hT (fr_35 _ (by omega)) | replace hT := eArr.fr hT (fr_35 _ (by omega)) | replace hT := Eq.trans (fr_35 _ (by omega)) hT | replace hT := eBo.fr hT (fr_35 _ (by omega)) | replace hT := ePp.fr1 hT (fun a _ _ => fr_35 a (by omega)) | replace hT := eNm.fr1 hT (fun a _ _ => fr_35 a (by omega)) | replace hT := eRg.fr hT (fun a _ _ => fr_35 a (by omega)) | replace hT := eTx.fr hT (fun a _ _ => fr_35 a (by omega)) | replace hT := ePa.fr hT (fun a _ _ => fr_35 a (by omega)) | replace hT := eRf.fr hT (fr_35 _ (by omega)) | replace hT := eSl.fr hT (fun a _ _ => fr_35 a (by omega)) | replace hT := eSe.fr hT (fun a _ _ => fr_35 a (by omega)) | replace hT := z_35 hT | replace hT := z_35
      first | replace hR := eRow.fr hR (fr_35 _ (by omega)) | replace hR := eMB.fr hR (fr_35 _ (by omega)) | replace hR := eArr.fr hR (fr_35 _ (by omega)) | replace hR := Eq.trans (fr_35 _ (by omega)) hR | replace hR := eBo.fr hR (fr_35 _ (by omega)) | replace hR := ePp.fr1 hR (fun a _ _ => fr_35 a (by omega)) | replace hR := eNm.fr1 hR (fun a _ _ => fr_35 a (by omega)) | replace hR := eRg.fr hR (fun a _ _ => fr_35 a (by omega)) | replace hR := eTx.fr hR (fun a _ _ => fr_35 a (by omega)) | replace hR := ePa.fr hR (fun a _ _ => fr_35 a (by omega)) | replace hR := eRf.fr hR (fr_35 _ (by omega)) | replace hR := eSl.fr hR (fun a _ _ => fr_35 a (by omega)) | replace hR := eSe.fr hR (fun a _ _ => fr_35 a (by omega)) | replace hR := z_35 hR | replace hR := z_35
      first | replace hBk := eRow.fr hBk (fr_35 _ (by omega)) | replace hBk := eMB.fr hBk (fr_35 _ (by omega)) | replace hBk := eArr.fr hBk (fr_35 _ (by omega)) | replace hBk := Eq.trans (fr_35 _ (by omega)) hBk | replace hBk := eBo.fr hBk (fr_35 _ (by omega)) | replace hBk := ePp.fr1 hBk (fun a _ _ => fr_35 a (by omega)) | replace hBk := eNm.fr1 hBk (fun a _ _ => fr_35 a (by omega)) | replace hBk := eRg.fr hBk (fun a _ _ => fr_35 a (by omega)) | replace hBk := eTx.fr hBk (fun a _ _ => fr_35 a (by omega)) | replace hBk := ePa.fr hBk (fun a _ _ => fr_35 a (by omega)) | replace hBk := eRf.fr hBk (fr_35 _ (by omega)) | replace hBk := eSl.fr hBk (fun a _ _ => fr_35 a (by omega)) | replace hBk := eSe.fr hBk (fun a _ _ => fr_35 a (by omega)) | replace hBk := z_35 hBk | replace hBk := z_35
      first | replace hKp := eRow.fr hKp (fr_35 _ (by omega)) | replace hKp := eMB.fr hKp (fr_35 _ (by omega)) | replace hKp := eArr.fr hKp (fr_35 _ (by omega)) | replace hKp := Eq.trans (fr_35 _ (by omega)) hKp | replace hKp := eBo.fr hKp (fr_35 _ (by omega)) | replace hKp := ePp.fr1 hKp (fun a _ _ => fr_35 a (by omega)) | replace hKp := eNm.fr1 hKp (fun a _ _ => fr_35 a (by omega)) | replace hKp := eRg.fr hKp (fun a _ _ => fr_35 a (by omega)) | replace hKp := eTx.fr hKp (fun a _ _ => fr_35 a (by omega)) | replace hKp := ePa.fr hKp (fun a _ _ => fr_35 a (by omega)) | replace hKp := eRf.fr hKp (fr_35 _ (by omega)) | replace hKp := eSl.fr hKp (fun a _ _ => fr_35 a (by omega)) | replace hKp := eSe.fr hKp (fun a _ _ => fr_35 a (by omega)) | replace hKp := z_35 hKp | replace hKp := z_35
      first | replace hU := eRow.fr hU (fr_35 _ (by omega)) | replace hU := eMB.fr hU (fr_35 _ (by omega)) | replace hU := eArr.fr hU (fr_35 _ (by omega)) | replace hU := Eq.trans (fr_35 _ (by omega)) hU | replace hU := eBo.fr hU (fr_35 _ (by omega)) | replace hU := ePp.fr1 hU (fun a _ _ => fr_35 a (by omega)) | replace hU := eNm.fr1 hU (fun a _ _ => fr_35 a (by omega)) | replace hU := eRg.fr hU (fun a _ _ => fr_35 a (by omega)) | replace hU := eTx.fr hU (fun a _ _ => fr_35 a (by omega)) | replace hU := ePa.fr hU (fun a _ _ => fr_35 a (by omega)) | replace hU := eRf.fr hU (fr_35 _ (by omega)) | replace hU := eSl.fr hU (fun a _ _ => fr_35 a (by omega)) | replace hU := eSe.fr hU (fun a _ _ => fr_35 a (by omega)) | replace hU := z_35 hU | replace hU := z_35
      first | replace hH := eRow.fr hH (fr_35 _ (by omega)) | replace hH := eMB.fr hH (fr_35 _ (by omega)) | replace hH := eArr.fr hH (fr_35 _ (by omega)) | replace hH := Eq.trans (fr_35 _ (by omega)) hH | replace hH := eBo.fr hH (fr_35 _ (by omega)) | replace hH := ePp.fr1 hH (fun a _ _ => fr_35 a (by omega)) | replace hH := eNm.fr1 hH (fun a _ _ => fr_35 a (by omega)) | replace hH := eRg.fr hH (fun a _ _ => fr_35 a (by omega)) | replace hH := eTx.fr hH (fun a _ _ => fr_35 a (by omega)) | replace hH := ePa.fr hH (fun a _ _ => fr_35 a (by omega)) | replace hH := eRf.fr hH (fr_35 _ (by omega)) | replace hH := eSl.fr hH (fun a _ _ => fr_35 a (by omega)) | replace hH := eSe.fr hH (fun a _ _ => fr_35 a (by omega)) | replace hH := z_35 hH | replace hH := z_35
      first | replace hX := eRow.fr hX (fr_35 _ (by omega)) | replace hX := eMB.fr hX (fr_35 _ (by omega)) | replace hX := eArr.fr hX (fr_35 _ (by omega)) | replace hX := Eq.trans (fr_35 _ (by omega)) hX | replace hX := eBo.fr hX (fr_35 _ (by omega)) | replace hX := ePp.fr1 hX (fun a _ _ => fr_35 a (by omega)) | replace hX := eNm.fr1 hX (fun a _ _ => fr_35 a (by omega)) | replace hX := eRg.fr hX (fun a _ _ => fr_35 a (by omega)) | replace hX := eTx.fr hX (fun a _ _ => fr_35 a (by omega)) | replace hX := ePa.fr hX (fun a _ _ => fr_35 a (by omega)) | replace hX := eRf.fr hX (fr_35 _ (by omega)) | replace hX := eSl.fr hX (fun a _ _ => fr_35 a (by omega)) | replace hX := eSe.fr hX (fun a _ _ => fr_35 a (by omega)) | replace hX := z_35 hX | replace hX := z_35
      first | replace FR := eFr.trans FR (eFr.one fr_35 (by omega) (by omega)) | replace FR := eFr.trans FR (eFr.wide fr_35 (by omega) (by omega)) | replace FR := eF2.a FR fr_35 | replace FR := eF2.b FR fr_35 | replace FR := eF2.c FR fr_35 | replace FR := eF2.t FR fr_35
      first | ((with_reducible show eV _ _ _ (Value.int (bI _) :: _) _ _ _ _); refine ev_if_eqB (tgt := 43) dX11_runScript_38 (by decide) (fun c_38 => ?_) (fun c_38 => ?_)) | ((with_reducible show eV _ _ _ (Value.int (nI _) :: _) _ _ _ _); refine ev_if_eqN (tgt := 43) dX11_runScript_38 (by decide) (by first | exact hB _ _ | omega) (fun c_38 => ?_) (fun c_38 => ?_)) | (refine ev_if_eqZ (tgt := 43) dX11_runScript_38 (by decide) (fun c_38 => ?_) (fun c_38 => ?_))
      · exact absurd c_38 (by decide)
      · refine ev_iconst (v := nI 0) dX11_runScript_41 rfl ?_
        exact ev_iret dX11_runScript_42 rfl rfl (by rfl) (by exact ⟨⟨⟨_, _, _, _, hM⟩, hN, ⟨_, hT⟩, ⟨_, hR⟩, hBk, hKp, ⟨hU, hu⟩, ⟨_, hH⟩, hX, hx⟩, FR⟩) (fun _ e => Option.some.inj e) (Nat.le_of_ble_eq_true rfl) (Nat.le_of_ble_eq_true rfl)
    · exact absurd (of_decide_eq_true c_27) (by omega)
/-! what the counts of refused and of nobody don't touch -/
def stp (σ : St) : St := su (su σ 0 4 0) 0 5 0
theorem stp_su {σ : St} {f i v : Nat} (h : f ≠ 0 ∨ (i ≠ 4 ∧ i ≠ 5)) : stp (su σ f i v) = su (stp σ) f i v := by
  funext g j
  unfold stp
  by_cases h5 : g = 0 ∧ j = 5
  · rw [h5.1, h5.2, su_same, su_ne (by omega), su_same]
  · rw [su_ne (f := 0) (i := 5) (by omega)]
    by_cases h4 : g = 0 ∧ j = 4
    · rw [h4.1, h4.2, su_same, su_ne (by omega), su_ne (by omega), su_same]
    · rw [su_ne (f := 0) (i := 4) (by omega)]
      by_cases hf : g = f ∧ j = i
      · rw [hf.1, hf.2, su_same, su_same]
      · rw [su_ne (by omega), su_ne (by omega), su_ne (by omega), su_ne (by omega)]
theorem stp_45 {σ : St} {i v : Nat} (h : i = 4 ∨ i = 5) : stp (su σ 0 i v) = stp σ := by
  funext g j
  unfold stp
  by_cases h5 : g = 0 ∧ j = 5
  · rw [h5.1, h5.2, su_same, su_same]
  · rw [su_ne (f := 0) (i := 5) (by omega), su_ne (f := 0) (i := 5) (by omega)]
    by_cases h4 : g = 0 ∧ j = 4
    · rw [h4.1, h4.2, su_same, su_same]
    · rw [su_ne (f := 0) (i := 4) (by omega), su_ne (f := 0) (i := 4) (by omega), su_ne (by omega)]
theorem stp_addP (σ : St) (a f b : Nat) : stp (sAddP σ a f b) = sAddP (stp σ) a f b := by
  unfold sAddP
  rw [stp_su (by omega), stp_su (by omega), stp_su (by omega), stp_su (by omega), stp_su (by omega), stp_su (by omega)]
  rfl
theorem stp_addN (σ : St) (g p m c y : Nat) : stp (sAddN σ g p m c y) = sAddN (stp σ) g p m c y := by
  unfold sAddN
  rw [stp_su (by omega), stp_su (by omega), stp_su (by omega), stp_su (by omega), stp_su (by omega), stp_su (by omega), stp_su (by omega), stp_su (by omega), stp_su (by omega)]
  rfl
theorem stp_use (σ : St) (k y u : Nat) : stp (sUse σ k y u) = sUse (stp σ) k y u := by
  by_cases h : σ 12 k = 0 ∧ u ≤ σ 10 k + 1
  · rw [sUse_s h.1 h.2, sUse_s (σ := stp σ) h.1 h.2, stp_su (by omega), stp_su (by omega), stp_su (by omega), stp_su (by omega)]
    rfl
  · rw [sUse_x h, sUse_x (σ := stp σ) h, stp_su (by omega), stp_su (by omega), stp_su (by omega), stp_su (by omega)]
    rfl
theorem stp_mix (σ : St) (p : Nat) (o : Option Nat) : stp (sMix σ p o) = sMix (stp σ) p o := by
  cases o with
  | none => rfl
  | some q =>
    unfold sMix
    rw [stp_su (by omega), stp_su (by omega), stp_su (by omega)]
    rfl
theorem stp_nameOf (σ : St) (p m c : Nat) : sNameOf (stp σ) p m c = sNameOf σ p m c := rfl
theorem stp_FBN (σ : St) (p m c : Nat) : sFBN (stp σ) p m c = sFBN σ p m c := rfl
theorem stp_meant (σ : St) (b m c : Nat) : sMeant (stp σ) b m c = sMeant σ b m c := rfl
theorem stp_callW (σ : St) (b m c : Nat) : sCallW (stp σ) b m c = sCallW σ b m c := rfl
theorem stp_why (σ : St) (g p m c : Nat) : sWhy (stp σ) g p m c = sWhy σ g p m c := rfl
theorem stp_giveOK (σ : St) (g p m c : Nat) : sGiveOK (stp σ) g p m c = sGiveOK σ g p m c := rfl
theorem stp_kept (σ : St) (p b : Nat) : sKept (stp σ) p b = sKept σ p b := rfl
theorem stp_call (σ : St) (b m c : Nat) : stp (sCall σ b m c) = sCall (stp σ) b m c := by
  unfold sCall
  rw [stp_callW]
  cases sCallW σ b m c with
  | none => rfl
  | some p =>
    simp only
    rw [stp_nameOf]
    cases sNameOf σ p m c with
    | some k => exact stp_use σ k _ _
    | none => simp only; rw [stp_mix, stp_FBN]
theorem stp_give (σ : St) (g p m c : Nat) : stp (sGive σ g p m c) = sGive (stp σ) g p m c := by
  unfold sGive
  rw [stp_giveOK]
  split
  · exact stp_addN σ g p m c _
  · rfl
theorem stp_person (σ : St) (a f b : Nat) : stp (sPerson σ a f b) = sPerson (stp σ) a f b := by
  unfold sPerson
  rw [show sPersonOK (stp σ) a f b = sPersonOK σ a f b from rfl]
  split
  · exact stp_addP σ a f b
  · rfl
theorem stp_sit (σ : St) (p b : Nat) : stp (sSit σ p b) = sSit (stp σ) p b := by
  unfold sSit
  rw [show sSitOK (stp σ) p b = sSitOK σ p b from rfl]
  split
  · exact stp_su (by omega)
  · rfl
theorem stp_set (σ : St) (w v : Nat) : stp (sSet σ w v) = sSet (stp σ) w v := by
  unfold sSet
  split
  · exact stp_su (by omega)
  · rfl
theorem stp_heirTo (σ : St) (p : Nat) : ∀ n, sHeirTo (stp σ) p n = sHeirTo σ p n
  | 0 => rfl
  | n + 1 => by
    rw [sHeirTo, sHeirTo, stp_heirTo σ p n]
    rfl
theorem stp_heirOf (σ : St) (k : Nat) : sHeirOf (stp σ) k = sHeirOf σ k := by
  unfold sHeirOf sHeir
  rw [stp_heirTo]
  rfl
theorem stp_outgrow (σ : St) (k : Nat) : stp (sOutgrow σ k) = sOutgrow (stp σ) k := by
  unfold sOutgrow
  rw [stp_heirOf]
  cases sHeirOf σ k with
  | none => exact stp_su (by omega)
  | some q =>
    simp only
    rw [stp_addN, stp_su (by omega)]
    rfl
theorem stp_step (σ : St) (k : Nat) : stp (sEndStep σ k) = sEndStep (stp σ) k := by
  unfold sEndStep
  rw [show sAlive (stp σ) k = sAlive σ k from rfl, show stp σ 14 1 = σ 14 1 from rfl, show stp σ 0 2 = σ 0 2 from rfl, show stp σ 11 k = σ 11 k from rfl, show stp σ 14 2 = σ 14 2 from rfl, show stp σ 6 k = σ 6 k from rfl, show stp σ 1 (stp σ 9 k) = σ 1 (σ 9 k) from rfl]
  split
  · rfl
  split
  · exact stp_su (by omega)
  split
  · exact stp_outgrow σ k
  · rfl
theorem stp_end (σ : St) : ∀ n, stp (sEnd σ n) = sEnd (stp σ) n
  | 0 => rfl
  | n + 1 => by rw [sEnd, sEnd, stp_step, stp_end σ n]
theorem stp_grow (σ : St) (m : Nat) : stp (sGrow σ m) = sGrow (stp σ) m := by
  funext g j
  unfold stp sGrow
  by_cases h : g = 1 ∧ j < m
  · rw [su_ne (by omega), su_ne (by omega), if_pos h, if_pos h]; rfl
  · rw [if_neg h]
    by_cases h5 : g = 0 ∧ j = 5
    · rw [h5.1, h5.2, su_same, su_same]
    · rw [su_ne (f := 0) (i := 5) (by omega), su_ne (f := 0) (i := 5) (by omega)]
      by_cases h4 : g = 0 ∧ j = 4
      · rw [h4.1, h4.2, su_same, su_same]
      · rw [su_ne (by omega), su_ne (by omega), if_neg h]
theorem stp_older (σ : St) : stp (sOlder σ) = sOlder (stp σ) := by
  unfold sOlder
  rw [stp_grow, stp_su (by omega)]
  rfl
theorem stp_years (σ : St) : ∀ n, stp (sYears σ n) = sYears (stp σ) n
  | 0 => rfl
  | n + 1 => by
    rw [sYears, sYears, stp_end, stp_older, ← stp_years σ n]
    rfl
theorem stp_pass (σ : St) (n : Nat) : stp (sPass σ n) = sPass (stp σ) n := by
  unfold sPass
  rw [show sYearsOK (stp σ) n = sYearsOK σ n from rfl]
  split
  · exact stp_years σ n
  · rfl
theorem stp_turn (σ : St) (v : Nat) : stp (sTurn σ v) = sTurn (stp σ) v := by
  unfold sTurn
  split
  · exact stp_person σ _ _ _
  split
  · exact stp_give σ _ _ _ _
  split
  · exact stp_call σ _ _ _
  split
  · exact stp_sit σ _ _
  split
  · exact stp_set σ _ _
  · exact stp_pass σ _
theorem stp_RG (σ : St) (g p k : Nat) : stp (mRG σ g p k) = stp (sGive σ g p 1 k) := by
  by_cases h : sGiveOK σ g p 1 k = true
  · rw [mRG_ok h]
  · have h : sGiveOK σ g p 1 k = false := by simpa using h
    rw [(sGive_n h).2]
    unfold mRG
    split
    · rename_i z
      unfold sGiveT
      split
      · rename_i z2
        simp only [Bool.and_eq_true] at z
        rw [(sGive_y z.1.1 z.1.2 z.2 z2).1] at h
        cases h
      · exact stp_45 (Or.inr rfl)
    · rfl
theorem stp_RC (σ : St) (b k : Nat) : stp (mRC σ b k) = stp (sCall σ b 1 k) := by
  unfold mRC
  split
  · unfold sCallT
    split
    · exact stp_45 (Or.inl rfl)
    · rfl
  · rename_i z
    have e : sCallW σ b 1 k = none := if_neg (fun q => z (by rw [decide_eq_true q.1, q.2]; rfl))
    unfold sCall
    rw [e]
def mTurn (σ : St) (n : Nat) : St :=
  if n % 16 ≤ 1 then sPerson σ (n / 16 % 60) (n / 16 / 64 % 6) (n / 16 / 512 % 4)
  else if n % 16 ≤ 5 then mRG σ (n / 16 % 12) (n / 16 / 16 % 12) (n / 16 / 256 % 8)
  else if n % 16 ≤ 11 then mRC σ (n / 16 % 4) (n / 16 / 4 % 8)
  else if n % 16 = 12 then sSit σ (n / 16 % 12) (n / 16 / 16 % 4)
  else if n % 16 = 13 then sSet σ (n / 16 % 3) (1 + n / 16 / 4 % 4)
  else sPass σ (1 + n / 16 % 2)
theorem stp_mturn (σ : St) (v : Nat) : stp (mTurn σ v) = stp (sTurn σ v) := by
  unfold mTurn sTurn
  split
  · rfl
  split
  · exact stp_RG σ _ _ _
  split
  · exact stp_RC σ _ _
  · rfl
theorem mTurn_p {σ : St} {n : Nat} (h : n % 16 ≤ 1) : mTurn σ n = sPerson σ (n / 16 % 60) (n / 16 / 64 % 6) (n / 16 / 512 % 4) := if_pos h
theorem mTurn_g {σ : St} {n : Nat} (h : 1 < n % 16 ∧ n % 16 ≤ 5) : mTurn σ n = mRG σ (n / 16 % 12) (n / 16 / 16 % 12) (n / 16 / 256 % 8) := by unfold mTurn; rw [if_neg (by omega), if_pos h.2]
theorem mTurn_c {σ : St} {n : Nat} (h : 5 < n % 16 ∧ n % 16 ≤ 11) : mTurn σ n = mRC σ (n / 16 % 4) (n / 16 / 4 % 8) := by unfold mTurn; rw [if_neg (by omega), if_neg (by omega), if_pos h.2]
theorem mTurn_b {σ : St} {n : Nat} (h : n % 16 = 12) : mTurn σ n = sSit σ (n / 16 % 12) (n / 16 / 16 % 4) := by unfold mTurn; rw [if_neg (by omega), if_neg (by omega), if_neg (by omega), if_pos h]
theorem mTurn_s {σ : St} {n : Nat} (h : n % 16 = 13) : mTurn σ n = sSet σ (n / 16 % 3) (1 + n / 16 / 4 % 4) := by unfold mTurn; rw [if_neg (by omega), if_neg (by omega), if_neg (by omega), if_neg (by omega), if_pos h]
theorem mTurn_y {σ : St} {n : Nat} (h : 13 < n % 16) : mTurn σ n = sPass σ (1 + n / 16 % 2) := by unfold mTurn; rw [if_neg (by omega), if_neg (by omega), if_neg (by omega), if_neg (by omega), if_neg (by omega)]
theorem eIv.mturn {σ : St} {T n : Nat} (h : eIv σ T) : eIv (mTurn σ n) (T + 2) := by
  unfold mTurn
  split
  · exact h.person.mono (by omega)
  split
  · unfold mRG
    split
    · rename_i z
      simp only [Bool.and_eq_true, decide_eq_true_eq] at z
      exact (h.giveT z.1.1 z.1.2 z.2).mono (by omega)
    · exact h.mono (by omega)
  split
  · unfold mRC
    split
    · exact h.callT
    · exact h.mono (by omega)
  split
  · exact h.sitting.mono (by omega)
  split
  · exact h.setting.mono (by omega)
  · exact h.pass.mono (by omega)
theorem sGd.mturn {σ : St} {T n : Nat} (h : sGd σ) (hI : eIv σ T) : sGd (mTurn σ n) := by
  unfold mTurn
  split
  · exact h.person hI
  split
  · unfold mRG
    split
    · exact h.giveT
    · exact h
  split
  · unfold mRC
    split
    · exact h.callT
    · exact h
  split
  · exact h.sitting
  split
  · exact h.setting
  · exact h.pass hI
set_option maxHeartbeats 4000000 in
set_option maxRecDepth 20000 in
theorem c_X11_stir {h : eH} {n m bad c ℓ ap lo lr v T : Nat} {gd : Bool} {ρ : St} (hM : eMB h m bad c ℓ ap gd lo lr) (hT : eRow h (m + 2) ρ) (hI : eIv ρ T) (hT30 : T < 2 ^ 30) (hG : sGd ρ) (hv : v < 2 ^ 31) : kX11_stir [.ref m, .int (nI v)] h n (.inl none, (fun g' => eRow g' (m + 2) (mTurn ρ v) ∧ eFr h g' (m + 2) (m + 3)), some n) 0 0 := by
  refine eM.of RX11 "stir" [(0, .ref m), (1, .int (nI v))] pn_X11 rfl rfl (Nat.le_of_ble_eq_true rfl) rfl ?_
  have hK := hI.ok hT30
  have hz0 := hG.2 (ρ 0 0) (Nat.le_refl _)
  have hB := hK.1
  have h12 := hK.2.1
  have h40 := hK.2.2.1
  have FR : eFr h h (m + 2) (m + 3) := eFr.rf
  refine ev_iload_n dX11_stir_0 rfl rfl ?_
  refine ev_bipush (v := nI 16) dX11_stir_1 rfl ?_
  first | refine ev_idivN dX11_stir_3 (by first | omega | exact hB _ _) (by first | assumption | omega | exact ePp.ob (by assumption) | exact eNm.ob (by assumption) | exact eRg.ob (by assumption) | exact eTx.ob (by assumption) | exact ePa.ob (by assumption) | exact eMB.ob (by assumption)) (by first | omega | exact hB _ _) ?_ | refine ev_idiv dX11_stir_3 (by decide) ?_
  refine ev_istore_n dX11_stir_4 rfl (Nat.le_of_ble_eq_true rfl) ?_
  refine ev_iload_n dX11_stir_5 rfl rfl ?_
  refine ev_bipush (v := nI 16) dX11_stir_6 rfl ?_
  first | refine ev_iremN dX11_stir_8 (by first | omega | exact hB _ _) (by first | assumption | omega | exact ePp.ob (by assumption) | exact eNm.ob (by assumption) | exact eRg.ob (by assumption) | exact eTx.ob (by assumption) | exact ePa.ob (by assumption) | exact eMB.ob (by assumption)) (by first | omega | exact hB _ _) ?_ | refine ev_irem dX11_stir_8 (by decide) ?_
  by_cases z_9_0 : v % 16 = 0
  · refine ev_tabN (off := 71) (tgt := 80) dX11_stir_9 (by rw [z_9_0]; decide) (by rw [z_9_0]; decide) (by rw [z_9_0]; decide) (by rw [z_9_0]; rfl) (by decide) ?_
    refine ev_aload_n dX11_stir_80 rfl rfl ?_
    refine ev_getfield dX11_stir_81 fl_X11_13 (by first | assumption | omega | exact ePp.ob (by assumption) | exact eNm.ob (by assumption) | exact eRg.ob (by assumption) | exact eTx.ob (by assumption) | exact ePa.ob (by assumption) | exact eMB.ob (by assumption)) rfl ?_
    refine ev_sipush (v := nI 380) dX11_stir_84 rfl ?_
    first | refine ev_rowG (f := 0) (j := 0) dX11_stir_87 (by assumption) (Nat.le_of_ble_eq_true rfl) (fun _ => rfl) ?_ | refine ev_ialoadA dX11_stir_87 (by first | assumption | omega | exact ePp.ob (by assumption) | exact eNm.ob (by assumption) | exact eRg.ob (by assumption) | exact eTx.ob (by assumption) | exact ePa.ob (by assumption) | exact eMB.ob (by assumption)) (by first | assumption | omega | exact ePp.ob (by assumption) | exact eNm.ob (by assumption) | exact eRg.ob (by assumption) | exact eTx.ob (by assumption) | exact ePa.ob (by assumption) | exact eMB.ob (by assumption)) ?_
    refine ev_bipush (v := nI 12) dX11_stir_88 rfl ?_
    first | ((with_reducible show eV _ _ _ (Value.int (nI _) :: Value.int (nI _) :: _) _ _ _ _); refine ev_icmp_geN (tgt := 125) dX11_stir_90 (by decide) (by first | omega | exact hB _ _) (by first | omega | exact hB _ _) (fun c_90 => ?_) (fun c_90 => ?_)) | ((with_reducible show eV _ _ _ (Value.int (nI _) :: _) _ _ _ _); refine ev_icmp_geZN (tgt := 125) dX11_stir_90 (by decide) (by first | omega | exact hB _ _) (fun c_90 => ?_) (fun c_90 => ?_)) | ((with_reducible show eV _ _ _ (_ :: Value.int (nI _) :: _) _ _ _ _); refine ev_icmp_geNZ (tgt := 125) dX11_stir_90 (by decide) (by first | omega | exact hB _ _) (fun c_90 => ?_) (fun c_90 => ?_)) | (refine ev_icmp_geZZ (tgt := 125) dX11_stir_90 (by decide) (fun c_90 => ?_) (fun c_90 => ?_))
    · refine ev_iconst (v := nI 0) dX11_stir_125 rfl ?_
      refine ev_istore_n dX11_stir_126 rfl (Nat.le_of_ble_eq_true rfl) ?_
      refine ev_goto (tgt := 220) dX11_stir_127 (by decide) ?_
      exact ev_vret dX11_stir_220 rfl rfl (by first | exact ⟨by rw [mTurn_p (by omega), show sPerson ρ (v / 16 % 60) (v / 16 / 64 % 6) (v / 16 / 512 % 4) = sAddP ρ (v / 16 % 60) (v / 16 / 64 % 6) (v / 16 / 512 % 4) from if_pos (decide_eq_true ⟨by omega, by omega, by omega, by omega⟩)]; exact hT, FR⟩ | exact ⟨by rw [mTurn_p (by omega), show sPerson ρ (v / 16 % 60) (v / 16 / 64 % 6) (v / 16 / 512 % 4) = ρ from if_neg (fun z => absurd (of_decide_eq_true z) (by omega))]; exact hT, FR⟩ | exact ⟨by rw [mTurn_g (by omega)]; exact hT, FR⟩ | exact ⟨by rw [mTurn_c (by omega)]; exact hT, FR⟩ | exact ⟨by rw [mTurn_b (by omega)]; exact hT, FR⟩ | exact ⟨by rw [mTurn_s (by omega)]; exact hT, FR⟩ | exact ⟨by rw [mTurn_y (by omega)]; exact hT, FR⟩) (fun _ e => Option.some.inj e) (Nat.le_of_ble_eq_true rfl) (Nat.le_of_ble_eq_true rfl)
    · refine ev_aload_n dX11_stir_93 rfl rfl ?_
      refine ev_getfield dX11_stir_94 fl_X11_13 (by first | assumption | omega | exact ePp.ob (by assumption) | exact eNm.ob (by assumption) | exact eRg.ob (by assumption) | exact eTx.ob (by assumption) | exact ePa.ob (by assumption) | exact eMB.ob (by assumption)) rfl ?_
      refine ev_iload_n dX11_stir_97 rfl rfl ?_
      refine ev_bipush (v := nI 60) dX11_stir_98 rfl ?_
      first | refine ev_iremN dX11_stir_100 (by first | omega | exact hB _ _) (by first | assumption | omega | exact ePp.ob (by assumption) | exact eNm.ob (by assumption) | exact eRg.ob (by assumption) | exact eTx.ob (by assumption) | exact ePa.ob (by assumption) | exact eMB.ob (by assumption)) (by first | omega | exact hB _ _) ?_ | refine ev_irem dX11_stir_100 (by decide) ?_
      refine ev_iload_n dX11_stir_101 rfl rfl ?_
      refine ev_bipush (v := nI 64) dX11_stir_102 rfl ?_
      first | refine ev_idivN dX11_stir_104 (by first | omega | exact hB _ _) (by first | assumption | omega | exact ePp.ob (by assumption) | exact eNm.ob (by assumption) | exact eRg.ob (by assumption) | exact eTx.ob (by assumption) | exact ePa.ob (by assumption) | exact eMB.ob (by assumption)) (by first | omega | exact hB _ _) ?_ | refine ev_idiv dX11_stir_104 (by decide) ?_
      refine ev_bipush (v := nI 6) dX11_stir_105 rfl ?_
      first | refine ev_iremN dX11_stir_107 (by first | omega | exact hB _ _) (by first | assumption | omega | exact ePp.ob (by assumption) | exact eNm.ob (by assumption) | exact eRg.ob (by assumption) | exact eTx.ob (by assumption) | exact ePa.ob (by assumption) | exact eMB.ob (by assumption)) (by first | omega | exact hB _ _) ?_ | refine ev_irem dX11_stir_107 (by decide) ?_
      refine ev_iload_n dX11_stir_108 rfl rfl ?_
      refine ev_sipush (v := nI 512) dX11_stir_109 rfl ?_
      first | refine ev_idivN dX11_stir_112 (by first | omega | exact hB _ _) (by first | assumption | omega | exact ePp.ob (by assumption) | exact eNm.ob (by assumption) | exact eRg.ob (by assumption) | exact eTx.ob (by assumption) | exact ePa.ob (by assumption) | exact eMB.ob (by assumption)) (by first | omega | exact hB _ _) ?_ | refine ev_idiv dX11_stir_112 (by decide) ?_
      refine ev_iconst (v := nI 4) dX11_stir_113 rfl ?_
      first | refine ev_iremN dX11_stir_114 (by first | omega | exact hB _ _) (by first | assumption | omega | exact ePp.ob (by assumption) | exact eNm.ob (by assumption) | exact eRg.ob (by assumption) | exact eTx.ob (by assumption) | exact ePa.ob (by assumption) | exact eMB.ob (by assumption)) (by first | omega | exact hB _ _) ?_ | refine ev_irem dX11_stir_114 (by decide) ?_
      refine ev_callSi dX11_stir_115 (c_X11_addPerson hT (by omega) hz0.1 hz0.2) lk_X11_158 ⟨Nat.le_of_ble_eq_true rfl, Nat.le_of_ble_eq_true rfl⟩ rfl (Nat.le_of_ble_eq_true rfl) ⟨by first | exact Nat.le_of_ble_eq_true rfl | omega, by first | exact Nat.le_of_ble_eq_true rfl | omega⟩ (fun g_115 hg_115 => ?_)
      obtain ⟨w_115, fr_115⟩ := hg_115
      first | replace hM := eRow.fr hM (fr_115 _ (by omega)) | replace hM := eMB.fr hM (fr_115 _ (by omega)) | replace hM := eArr.fr hM (fr_115 _ (by omega)) | replace hM := Eq.trans (fr_115 _ (by omega)) hM | replace hM := eBo.fr hM (fr_115 _ (by omega)) | replace hM := ePp.fr1 hM (fun a _ _ => fr_115 a (by omega)) | replace hM := eNm.fr1 hM (fun a _ _ => fr_115 a (by omega)) | replace hM := eRg.fr hM (fun a _ _ => fr_115 a (by omega)) | replace hM := eTx.fr hM (fun a _ _ => fr_115 a (by omega)) | replace hM := ePa.fr hM (fun a _ _ => fr_115 a (by omega)) | replace hM := eRf.fr hM (fr_115 _ (by omega)) | replace hM := eSl.fr hM (fun a _ _ => fr_115 a (by omega)) | replace hM := eSe.fr hM (fun a _ _ => fr_115 a (by omega)) | replace hM := z_115 hM | replace hM := z_115
      replace hT := w_115
      first | replace FR := eFr.trans FR (eFr.one fr_115 (by omega) (by omega)) | replace FR := eFr.trans FR (eFr.wide fr_115 (by omega) (by omega)) | replace FR := eF2.a FR fr_115 | replace FR := eF2.b FR fr_115 | replace FR := eF2.c FR fr_115 | replace FR := eF2.t FR fr_115
      (with_reducible show eV _ _ _ (Value.int (nI _) :: _) _ _ _ _); refine ev_if_ltN (tgt := 125) dX11_stir_118 (by decide) (by first | omega | exact hB _ _) ?_
      refine ev_iconst (v := nI 1) dX11_stir_121 rfl ?_
      refine ev_goto (tgt := 126) dX11_stir_122 (by decide) ?_
      refine ev_istore_n dX11_stir_126 rfl (Nat.le_of_ble_eq_true rfl) ?_
      refine ev_goto (tgt := 220) dX11_stir_127 (by decide) ?_
      exact ev_vret dX11_stir_220 rfl rfl (by first | exact ⟨by rw [mTurn_p (by omega), show sPerson ρ (v / 16 % 60) (v / 16 / 64 % 6) (v / 16 / 512 % 4) = sAddP ρ (v / 16 % 60) (v / 16 / 64 % 6) (v / 16 / 512 % 4) from if_pos (decide_eq_true ⟨by omega, by omega, by omega, by omega⟩)]; exact hT, FR⟩ | exact ⟨by rw [mTurn_p (by omega), show sPerson ρ (v / 16 % 60) (v / 16 / 64 % 6) (v / 16 / 512 % 4) = ρ from if_neg (fun z => absurd (of_decide_eq_true z) (by omega))]; exact hT, FR⟩ | exact ⟨by rw [mTurn_g (by omega)]; exact hT, FR⟩ | exact ⟨by rw [mTurn_c (by omega)]; exact hT, FR⟩ | exact ⟨by rw [mTurn_b (by omega)]; exact hT, FR⟩ | exact ⟨by rw [mTurn_s (by omega)]; exact hT, FR⟩ | exact ⟨by rw [mTurn_y (by omega)]; exact hT, FR⟩) (fun _ e => Option.some.inj e) (Nat.le_of_ble_eq_true rfl) (Nat.le_of_ble_eq_true rfl)
  by_cases z_9_1 : v % 16 = 1
  · refine ev_tabN (off := 71) (tgt := 80) dX11_stir_9 (by rw [z_9_1]; decide) (by rw [z_9_1]; decide) (by rw [z_9_1]; decide) (by rw [z_9_1]; rfl) (by decide) ?_
    refine ev_aload_n dX11_stir_80 rfl rfl ?_
    refine ev_getfield dX11_stir_81 fl_X11_13 (by first | assumption | omega | exact ePp.ob (by assumption) | exact eNm.ob (by assumption) | exact eRg.ob (by assumption) | exact eTx.ob (by assumption) | exact ePa.ob (by assumption) | exact eMB.ob (by assumption)) rfl ?_
    refine ev_sipush (v := nI 380) dX11_stir_84 rfl ?_
    first | refine ev_rowG (f := 0) (j := 0) dX11_stir_87 (by assumption) (Nat.le_of_ble_eq_true rfl) (fun _ => rfl) ?_ | refine ev_ialoadA dX11_stir_87 (by first | assumption | omega | exact ePp.ob (by assumption) | exact eNm.ob (by assumption) | exact eRg.ob (by assumption) | exact eTx.ob (by assumption) | exact ePa.ob (by assumption) | exact eMB.ob (by assumption)) (by first | assumption | omega | exact ePp.ob (by assumption) | exact eNm.ob (by assumption) | exact eRg.ob (by assumption) | exact eTx.ob (by assumption) | exact ePa.ob (by assumption) | exact eMB.ob (by assumption)) ?_
    refine ev_bipush (v := nI 12) dX11_stir_88 rfl ?_
    first | ((with_reducible show eV _ _ _ (Value.int (nI _) :: Value.int (nI _) :: _) _ _ _ _); refine ev_icmp_geN (tgt := 125) dX11_stir_90 (by decide) (by first | omega | exact hB _ _) (by first | omega | exact hB _ _) (fun c_90 => ?_) (fun c_90 => ?_)) | ((with_reducible show eV _ _ _ (Value.int (nI _) :: _) _ _ _ _); refine ev_icmp_geZN (tgt := 125) dX11_stir_90 (by decide) (by first | omega | exact hB _ _) (fun c_90 => ?_) (fun c_90 => ?_)) | ((with_reducible show eV _ _ _ (_ :: Value.int (nI _) :: _) _ _ _ _); refine ev_icmp_geNZ (tgt := 125) dX11_stir_90 (by decide) (by first | omega | exact hB _ _) (fun c_90 => ?_) (fun c_90 => ?_)) | (refine ev_icmp_geZZ (tgt := 125) dX11_stir_90 (by decide) (fun c_90 => ?_) (fun c_90 => ?_))
    · refine ev_iconst (v := nI 0) dX11_stir_125 rfl ?_
      refine ev_istore_n dX11_stir_126 rfl (Nat.le_of_ble_eq_true rfl) ?_
      refine ev_goto (tgt := 220) dX11_stir_127 (by decide) ?_
      exact ev_vret dX11_stir_220 rfl rfl (by first | exact ⟨by rw [mTurn_p (by omega), show sPerson ρ (v / 16 % 60) (v / 16 / 64 % 6) (v / 16 / 512 % 4) = sAddP ρ (v / 16 % 60) (v / 16 / 64 % 6) (v / 16 / 512 % 4) from if_pos (decide_eq_true ⟨by omega, by omega, by omega, by omega⟩)]; exact hT, FR⟩ | exact ⟨by rw [mTurn_p (by omega), show sPerson ρ (v / 16 % 60) (v / 16 / 64 % 6) (v / 16 / 512 % 4) = ρ from if_neg (fun z => absurd (of_decide_eq_true z) (by omega))]; exact hT, FR⟩ | exact ⟨by rw [mTurn_g (by omega)]; exact hT, FR⟩ | exact ⟨by rw [mTurn_c (by omega)]; exact hT, FR⟩ | exact ⟨by rw [mTurn_b (by omega)]; exact hT, FR⟩ | exact ⟨by rw [mTurn_s (by omega)]; exact hT, FR⟩ | exact ⟨by rw [mTurn_y (by omega)]; exact hT, FR⟩) (fun _ e => Option.some.inj e) (Nat.le_of_ble_eq_true rfl) (Nat.le_of_ble_eq_true rfl)
    · refine ev_aload_n dX11_stir_93 rfl rfl ?_
      refine ev_getfield dX11_stir_94 fl_X11_13 (by first | assumption | omega | exact ePp.ob (by assumption) | exact eNm.ob (by assumption) | exact eRg.ob (by assumption) | exact eTx.ob (by assumption) | exact ePa.ob (by assumption) | exact eMB.ob (by assumption)) rfl ?_
      refine ev_iload_n dX11_stir_97 rfl rfl ?_
      refine ev_bipush (v := nI 60) dX11_stir_98 rfl ?_
      first | refine ev_iremN dX11_stir_100 (by first | omega | exact hB _ _) (by first | assumption | omega | exact ePp.ob (by assumption) | exact eNm.ob (by assumption) | exact eRg.ob (by assumption) | exact eTx.ob (by assumption) | exact ePa.ob (by assumption) | exact eMB.ob (by assumption)) (by first | omega | exact hB _ _) ?_ | refine ev_irem dX11_stir_100 (by decide) ?_
      refine ev_iload_n dX11_stir_101 rfl rfl ?_
      refine ev_bipush (v := nI 64) dX11_stir_102 rfl ?_
      first | refine ev_idivN dX11_stir_104 (by first | omega | exact hB _ _) (by first | assumption | omega | exact ePp.ob (by assumption) | exact eNm.ob (by assumption) | exact eRg.ob (by assumption) | exact eTx.ob (by assumption) | exact ePa.ob (by assumption) | exact eMB.ob (by assumption)) (by first | omega | exact hB _ _) ?_ | refine ev_idiv dX11_stir_104 (by decide) ?_
      refine ev_bipush (v := nI 6) dX11_stir_105 rfl ?_
      first | refine ev_iremN dX11_stir_107 (by first | omega | exact hB _ _) (by first | assumption | omega | exact ePp.ob (by assumption) | exact eNm.ob (by assumption) | exact eRg.ob (by assumption) | exact eTx.ob (by assumption) | exact ePa.ob (by assumption) | exact eMB.ob (by assumption)) (by first | omega | exact hB _ _) ?_ | refine ev_irem dX11_stir_107 (by decide) ?_
      refine ev_iload_n dX11_stir_108 rfl rfl ?_
      refine ev_sipush (v := nI 512) dX11_stir_109 rfl ?_
      first | refine ev_idivN dX11_stir_112 (by first | omega | exact hB _ _) (by first | assumption | omega | exact ePp.ob (by assumption) | exact eNm.ob (by assumption) | exact eRg.ob (by assumption) | exact eTx.ob (by assumption) | exact ePa.ob (by assumption) | exact eMB.ob (by assumption)) (by first | omega | exact hB _ _) ?_ | refine ev_idiv dX11_stir_112 (by decide) ?_
      refine ev_iconst (v := nI 4) dX11_stir_113 rfl ?_
      first | refine ev_iremN dX11_stir_114 (by first | omega | exact hB _ _) (by first | assumption | omega | exact ePp.ob (by assumption) | exact eNm.ob (by assumption) | exact eRg.ob (by assumption) | exact eTx.ob (by assumption) | exact ePa.ob (by assumption) | exact eMB.ob (by assumption)) (by first | omega | exact hB _ _) ?_ | refine ev_irem dX11_stir_114 (by decide) ?_
      refine ev_callSi dX11_stir_115 (c_X11_addPerson hT (by omega) hz0.1 hz0.2) lk_X11_158 ⟨Nat.le_of_ble_eq_true rfl, Nat.le_of_ble_eq_true rfl⟩ rfl (Nat.le_of_ble_eq_true rfl) ⟨by first | exact Nat.le_of_ble_eq_true rfl | omega, by first | exact Nat.le_of_ble_eq_true rfl | omega⟩ (fun g_115 hg_115 => ?_)
      obtain ⟨w_115, fr_115⟩ := hg_115
      first | replace hM := eRow.fr hM (fr_115 _ (by omega)) | replace hM := eMB.fr hM (fr_115 _ (by omega)) | replace hM := eArr.fr hM (fr_115 _ (by omega)) | replace hM := Eq.trans (fr_115 _ (by omega)) hM | replace hM := eBo.fr hM (fr_115 _ (by omega)) | replace hM := ePp.fr1 hM (fun a _ _ => fr_115 a (by omega)) | replace hM := eNm.fr1 hM (fun a _ _ => fr_115 a (by omega)) | replace hM := eRg.fr hM (fun a _ _ => fr_115 a (by omega)) | replace hM := eTx.fr hM (fun a _ _ => fr_115 a (by omega)) | replace hM := ePa.fr hM (fun a _ _ => fr_115 a (by omega)) | replace hM := eRf.fr hM (fr_115 _ (by omega)) | replace hM := eSl.fr hM (fun a _ _ => fr_115 a (by omega)) | replace hM := eSe.fr hM (fun a _ _ => fr_115 a (by omega)) | replace hM := z_115 hM | replace hM := z_115
      replace hT := w_115
      first | replace FR := eFr.trans FR (eFr.one fr_115 (by omega) (by omega)) | replace FR := eFr.trans FR (eFr.wide fr_115 (by omega) (by omega)) | replace FR := eF2.a FR fr_115 | replace FR := eF2.b FR fr_115 | replace FR := eF2.c FR fr_115 | replace FR := eF2.t FR fr_115
      (with_reducible show eV _ _ _ (Value.int (nI _) :: _) _ _ _ _); refine ev_if_ltN (tgt := 125) dX11_stir_118 (by decide) (by first | omega | exact hB _ _) ?_
      refine ev_iconst (v := nI 1) dX11_stir_121 rfl ?_
      refine ev_goto (tgt := 126) dX11_stir_122 (by decide) ?_
      refine ev_istore_n dX11_stir_126 rfl (Nat.le_of_ble_eq_true rfl) ?_
      refine ev_goto (tgt := 220) dX11_stir_127 (by decide) ?_
      exact ev_vret dX11_stir_220 rfl rfl (by first | exact ⟨by rw [mTurn_p (by omega), show sPerson ρ (v / 16 % 60) (v / 16 / 64 % 6) (v / 16 / 512 % 4) = sAddP ρ (v / 16 % 60) (v / 16 / 64 % 6) (v / 16 / 512 % 4) from if_pos (decide_eq_true ⟨by omega, by omega, by omega, by omega⟩)]; exact hT, FR⟩ | exact ⟨by rw [mTurn_p (by omega), show sPerson ρ (v / 16 % 60) (v / 16 / 64 % 6) (v / 16 / 512 % 4) = ρ from if_neg (fun z => absurd (of_decide_eq_true z) (by omega))]; exact hT, FR⟩ | exact ⟨by rw [mTurn_g (by omega)]; exact hT, FR⟩ | exact ⟨by rw [mTurn_c (by omega)]; exact hT, FR⟩ | exact ⟨by rw [mTurn_b (by omega)]; exact hT, FR⟩ | exact ⟨by rw [mTurn_s (by omega)]; exact hT, FR⟩ | exact ⟨by rw [mTurn_y (by omega)]; exact hT, FR⟩) (fun _ e => Option.some.inj e) (Nat.le_of_ble_eq_true rfl) (Nat.le_of_ble_eq_true rfl)
  by_cases z_9_2 : v % 16 = 2
  · refine ev_tabN (off := 121) (tgt := 130) dX11_stir_9 (by rw [z_9_2]; decide) (by rw [z_9_2]; decide) (by rw [z_9_2]; decide) (by rw [z_9_2]; rfl) (by decide) ?_
    refine ev_aload_n dX11_stir_130 rfl rfl ?_
    refine ev_iload_n dX11_stir_131 rfl rfl ?_
    refine ev_bipush (v := nI 12) dX11_stir_132 rfl ?_
    first | refine ev_iremN dX11_stir_134 (by first | omega | exact hB _ _) (by first | assumption | omega | exact ePp.ob (by assumption) | exact eNm.ob (by assumption) | exact eRg.ob (by assumption) | exact eTx.ob (by assumption) | exact ePa.ob (by assumption) | exact eMB.ob (by assumption)) (by first | omega | exact hB _ _) ?_ | refine ev_irem dX11_stir_134 (by decide) ?_
    refine ev_iload_n dX11_stir_135 rfl rfl ?_
    refine ev_bipush (v := nI 16) dX11_stir_136 rfl ?_
    first | refine ev_idivN dX11_stir_138 (by first | omega | exact hB _ _) (by first | assumption | omega | exact ePp.ob (by assumption) | exact eNm.ob (by assumption) | exact eRg.ob (by assumption) | exact eTx.ob (by assumption) | exact ePa.ob (by assumption) | exact eMB.ob (by assumption)) (by first | omega | exact hB _ _) ?_ | refine ev_idiv dX11_stir_138 (by decide) ?_
    refine ev_bipush (v := nI 12) dX11_stir_139 rfl ?_
    first | refine ev_iremN dX11_stir_141 (by first | omega | exact hB _ _) (by first | assumption | omega | exact ePp.ob (by assumption) | exact eNm.ob (by assumption) | exact eRg.ob (by assumption) | exact eTx.ob (by assumption) | exact ePa.ob (by assumption) | exact eMB.ob (by assumption)) (by first | omega | exact hB _ _) ?_ | refine ev_irem dX11_stir_141 (by decide) ?_
    refine ev_iload_n dX11_stir_142 rfl rfl ?_
    refine ev_sipush (v := nI 256) dX11_stir_143 rfl ?_
    first | refine ev_idivN dX11_stir_146 (by first | omega | exact hB _ _) (by first | assumption | omega | exact ePp.ob (by assumption) | exact eNm.ob (by assumption) | exact eRg.ob (by assumption) | exact eTx.ob (by assumption) | exact ePa.ob (by assumption) | exact eMB.ob (by assumption)) (by first | omega | exact hB _ _) ?_ | refine ev_idiv dX11_stir_146 (by decide) ?_
    refine ev_bipush (v := nI 8) dX11_stir_147 rfl ?_
    first | refine ev_iremN dX11_stir_149 (by first | omega | exact hB _ _) (by first | assumption | omega | exact ePp.ob (by assumption) | exact eNm.ob (by assumption) | exact eRg.ob (by assumption) | exact eTx.ob (by assumption) | exact ePa.ob (by assumption) | exact eMB.ob (by assumption)) (by first | omega | exact hB _ _) ?_ | refine ev_irem dX11_stir_149 (by decide) ?_
    refine ev_callVi dX11_stir_150 (c_X11_runGive hM hT hK (by omega) (by omega) (by omega)) rfl lk_X11_269 (by first | assumption | omega | exact ePp.ob (by assumption) | exact eNm.ob (by assumption) | exact eRg.ob (by assumption) | exact eTx.ob (by assumption) | exact ePa.ob (by assumption) | exact eMB.ob (by assumption)) ⟨Nat.le_of_ble_eq_true rfl, Nat.le_of_ble_eq_true rfl⟩ rfl (Nat.le_of_ble_eq_true rfl) ⟨by first | exact Nat.le_of_ble_eq_true rfl | omega, by first | exact Nat.le_of_ble_eq_true rfl | omega⟩ (fun g_150 hg_150 => ?_)
    obtain ⟨w_150, fr_150⟩ := hg_150
    first | replace hM := eRow.fr hM (fr_150 _ (by omega)) | replace hM := eMB.fr hM (fr_150 _ (by omega)) | replace hM := eArr.fr hM (fr_150 _ (by omega)) | replace hM := Eq.trans (fr_150 _ (by omega)) hM | replace hM := eBo.fr hM (fr_150 _ (by omega)) | replace hM := ePp.fr1 hM (fun a _ _ => fr_150 a (by omega)) | replace hM := eNm.fr1 hM (fun a _ _ => fr_150 a (by omega)) | replace hM := eRg.fr hM (fun a _ _ => fr_150 a (by omega)) | replace hM := eTx.fr hM (fun a _ _ => fr_150 a (by omega)) | replace hM := ePa.fr hM (fun a _ _ => fr_150 a (by omega)) | replace hM := eRf.fr hM (fr_150 _ (by omega)) | replace hM := eSl.fr hM (fun a _ _ => fr_150 a (by omega)) | replace hM := eSe.fr hM (fun a _ _ => fr_150 a (by omega)) | replace hM := z_150 hM | replace hM := z_150
    replace hT := w_150
    first | replace FR := eFr.trans FR (eFr.one fr_150 (by omega) (by omega)) | replace FR := eFr.trans FR (eFr.wide fr_150 (by omega) (by omega)) | replace FR := eF2.a FR fr_150 | replace FR := eF2.b FR fr_150 | replace FR := eF2.c FR fr_150 | replace FR := eF2.t FR fr_150
    refine ev_istore_n dX11_stir_153 rfl (Nat.le_of_ble_eq_true rfl) ?_
    refine ev_goto (tgt := 220) dX11_stir_154 (by decide) ?_
    exact ev_vret dX11_stir_220 rfl rfl (by first | exact ⟨by rw [mTurn_p (by omega), show sPerson ρ (v / 16 % 60) (v / 16 / 64 % 6) (v / 16 / 512 % 4) = sAddP ρ (v / 16 % 60) (v / 16 / 64 % 6) (v / 16 / 512 % 4) from if_pos (decide_eq_true ⟨by omega, by omega, by omega, by omega⟩)]; exact hT, FR⟩ | exact ⟨by rw [mTurn_p (by omega), show sPerson ρ (v / 16 % 60) (v / 16 / 64 % 6) (v / 16 / 512 % 4) = ρ from if_neg (fun z => absurd (of_decide_eq_true z) (by omega))]; exact hT, FR⟩ | exact ⟨by rw [mTurn_g (by omega)]; exact hT, FR⟩ | exact ⟨by rw [mTurn_c (by omega)]; exact hT, FR⟩ | exact ⟨by rw [mTurn_b (by omega)]; exact hT, FR⟩ | exact ⟨by rw [mTurn_s (by omega)]; exact hT, FR⟩ | exact ⟨by rw [mTurn_y (by omega)]; exact hT, FR⟩) (fun _ e => Option.some.inj e) (Nat.le_of_ble_eq_true rfl) (Nat.le_of_ble_eq_true rfl)
  by_cases z_9_3 : v % 16 = 3
  · refine ev_tabN (off := 121) (tgt := 130) dX11_stir_9 (by rw [z_9_3]; decide) (by rw [z_9_3]; decide) (by rw [z_9_3]; decide) (by rw [z_9_3]; rfl) (by decide) ?_
    refine ev_aload_n dX11_stir_130 rfl rfl ?_
    refine ev_iload_n dX11_stir_131 rfl rfl ?_
    refine ev_bipush (v := nI 12) dX11_stir_132 rfl ?_
    first | refine ev_iremN dX11_stir_134 (by first | omega | exact hB _ _) (by first | assumption | omega | exact ePp.ob (by assumption) | exact eNm.ob (by assumption) | exact eRg.ob (by assumption) | exact eTx.ob (by assumption) | exact ePa.ob (by assumption) | exact eMB.ob (by assumption)) (by first | omega | exact hB _ _) ?_ | refine ev_irem dX11_stir_134 (by decide) ?_
    refine ev_iload_n dX11_stir_135 rfl rfl ?_
    refine ev_bipush (v := nI 16) dX11_stir_136 rfl ?_
    first | refine ev_idivN dX11_stir_138 (by first | omega | exact hB _ _) (by first | assumption | omega | exact ePp.ob (by assumption) | exact eNm.ob (by assumption) | exact eRg.ob (by assumption) | exact eTx.ob (by assumption) | exact ePa.ob (by assumption) | exact eMB.ob (by assumption)) (by first | omega | exact hB _ _) ?_ | refine ev_idiv dX11_stir_138 (by decide) ?_
    refine ev_bipush (v := nI 12) dX11_stir_139 rfl ?_
    first | refine ev_iremN dX11_stir_141 (by first | omega | exact hB _ _) (by first | assumption | omega | exact ePp.ob (by assumption) | exact eNm.ob (by assumption) | exact eRg.ob (by assumption) | exact eTx.ob (by assumption) | exact ePa.ob (by assumption) | exact eMB.ob (by assumption)) (by first | omega | exact hB _ _) ?_ | refine ev_irem dX11_stir_141 (by decide) ?_
    refine ev_iload_n dX11_stir_142 rfl rfl ?_
    refine ev_sipush (v := nI 256) dX11_stir_143 rfl ?_
    first | refine ev_idivN dX11_stir_146 (by first | omega | exact hB _ _) (by first | assumption | omega | exact ePp.ob (by assumption) | exact eNm.ob (by assumption) | exact eRg.ob (by assumption) | exact eTx.ob (by assumption) | exact ePa.ob (by assumption) | exact eMB.ob (by assumption)) (by first | omega | exact hB _ _) ?_ | refine ev_idiv dX11_stir_146 (by decide) ?_
    refine ev_bipush (v := nI 8) dX11_stir_147 rfl ?_
    first | refine ev_iremN dX11_stir_149 (by first | omega | exact hB _ _) (by first | assumption | omega | exact ePp.ob (by assumption) | exact eNm.ob (by assumption) | exact eRg.ob (by assumption) | exact eTx.ob (by assumption) | exact ePa.ob (by assumption) | exact eMB.ob (by assumption)) (by first | omega | exact hB _ _) ?_ | refine ev_irem dX11_stir_149 (by decide) ?_
    refine ev_callVi dX11_stir_150 (c_X11_runGive hM hT hK (by omega) (by omega) (by omega)) rfl lk_X11_269 (by first | assumption | omega | exact ePp.ob (by assumption) | exact eNm.ob (by assumption) | exact eRg.ob (by assumption) | exact eTx.ob (by assumption) | exact ePa.ob (by assumption) | exact eMB.ob (by assumption)) ⟨Nat.le_of_ble_eq_true rfl, Nat.le_of_ble_eq_true rfl⟩ rfl (Nat.le_of_ble_eq_true rfl) ⟨by first | exact Nat.le_of_ble_eq_true rfl | omega, by first | exact Nat.le_of_ble_eq_true rfl | omega⟩ (fun g_150 hg_150 => ?_)
    obtain ⟨w_150, fr_150⟩ := hg_150
    first | replace hM := eRow.fr hM (fr_150 _ (by omega)) | replace hM := eMB.fr hM (fr_150 _ (by omega)) | replace hM := eArr.fr hM (fr_150 _ (by omega)) | replace hM := Eq.trans (fr_150 _ (by omega)) hM | replace hM := eBo.fr hM (fr_150 _ (by omega)) | replace hM := ePp.fr1 hM (fun a _ _ => fr_150 a (by omega)) | replace hM := eNm.fr1 hM (fun a _ _ => fr_150 a (by omega)) | replace hM := eRg.fr hM (fun a _ _ => fr_150 a (by omega)) | replace hM := eTx.fr hM (fun a _ _ => fr_150 a (by omega)) | replace hM := ePa.fr hM (fun a _ _ => fr_150 a (by omega)) | replace hM := eRf.fr hM (fr_150 _ (by omega)) | replace hM := eSl.fr hM (fun a _ _ => fr_150 a (by omega)) | replace hM := eSe.fr hM (fun a _ _ => fr_150 a (by omega)) | replace hM := z_150 hM | replace hM := z_150
    replace hT := w_150
    first | replace FR := eFr.trans FR (eFr.one fr_150 (by omega) (by omega)) | replace FR := eFr.trans FR (eFr.wide fr_150 (by omega) (by omega)) | replace FR := eF2.a FR fr_150 | replace FR := eF2.b FR fr_150 | replace FR := eF2.c FR fr_150 | replace FR := eF2.t FR fr_150
    refine ev_istore_n dX11_stir_153 rfl (Nat.le_of_ble_eq_true rfl) ?_
    refine ev_goto (tgt := 220) dX11_stir_154 (by decide) ?_
    exact ev_vret dX11_stir_220 rfl rfl (by first | exact ⟨by rw [mTurn_p (by omega), show sPerson ρ (v / 16 % 60) (v / 16 / 64 % 6) (v / 16 / 512 % 4) = sAddP ρ (v / 16 % 60) (v / 16 / 64 % 6) (v / 16 / 512 % 4) from if_pos (decide_eq_true ⟨by omega, by omega, by omega, by omega⟩)]; exact hT, FR⟩ | exact ⟨by rw [mTurn_p (by omega), show sPerson ρ (v / 16 % 60) (v / 16 / 64 % 6) (v / 16 / 512 % 4) = ρ from if_neg (fun z => absurd (of_decide_eq_true z) (by omega))]; exact hT, FR⟩ | exact ⟨by rw [mTurn_g (by omega)]; exact hT, FR⟩ | exact ⟨by rw [mTurn_c (by omega)]; exact hT, FR⟩ | exact ⟨by rw [mTurn_b (by omega)]; exact hT, FR⟩ | exact ⟨by rw [mTurn_s (by omega)]; exact hT, FR⟩ | exact ⟨by rw [mTurn_y (by omega)]; exact hT, FR⟩) (fun _ e => Option.some.inj e) (Nat.le_of_ble_eq_true rfl) (Nat.le_of_ble_eq_true rfl)
  by_cases z_9_4 : v % 16 = 4
  · refine ev_tabN (off := 121) (tgt := 130) dX11_stir_9 (by rw [z_9_4]; decide) (by rw [z_9_4]; decide) (by rw [z_9_4]; decide) (by rw [z_9_4]; rfl) (by decide) ?_
    refine ev_aload_n dX11_stir_130 rfl rfl ?_
    refine ev_iload_n dX11_stir_131 rfl rfl ?_
    refine ev_bipush (v := nI 12) dX11_stir_132 rfl ?_
    first | refine ev_iremN dX11_stir_134 (by first | omega | exact hB _ _) (by first | assumption | omega | exact ePp.ob (by assumption) | exact eNm.ob (by assumption) | exact eRg.ob (by assumption) | exact eTx.ob (by assumption) | exact ePa.ob (by assumption) | exact eMB.ob (by assumption)) (by first | omega | exact hB _ _) ?_ | refine ev_irem dX11_stir_134 (by decide) ?_
    refine ev_iload_n dX11_stir_135 rfl rfl ?_
    refine ev_bipush (v := nI 16) dX11_stir_136 rfl ?_
    first | refine ev_idivN dX11_stir_138 (by first | omega | exact hB _ _) (by first | assumption | omega | exact ePp.ob (by assumption) | exact eNm.ob (by assumption) | exact eRg.ob (by assumption) | exact eTx.ob (by assumption) | exact ePa.ob (by assumption) | exact eMB.ob (by assumption)) (by first | omega | exact hB _ _) ?_ | refine ev_idiv dX11_stir_138 (by decide) ?_
    refine ev_bipush (v := nI 12) dX11_stir_139 rfl ?_
    first | refine ev_iremN dX11_stir_141 (by first | omega | exact hB _ _) (by first | assumption | omega | exact ePp.ob (by assumption) | exact eNm.ob (by assumption) | exact eRg.ob (by assumption) | exact eTx.ob (by assumption) | exact ePa.ob (by assumption) | exact eMB.ob (by assumption)) (by first | omega | exact hB _ _) ?_ | refine ev_irem dX11_stir_141 (by decide) ?_
    refine ev_iload_n dX11_stir_142 rfl rfl ?_
    refine ev_sipush (v := nI 256) dX11_stir_143 rfl ?_
    first | refine ev_idivN dX11_stir_146 (by first | omega | exact hB _ _) (by first | assumption | omega | exact ePp.ob (by assumption) | exact eNm.ob (by assumption) | exact eRg.ob (by assumption) | exact eTx.ob (by assumption) | exact ePa.ob (by assumption) | exact eMB.ob (by assumption)) (by first | omega | exact hB _ _) ?_ | refine ev_idiv dX11_stir_146 (by decide) ?_
    refine ev_bipush (v := nI 8) dX11_stir_147 rfl ?_
    first | refine ev_iremN dX11_stir_149 (by first | omega | exact hB _ _) (by first | assumption | omega | exact ePp.ob (by assumption) | exact eNm.ob (by assumption) | exact eRg.ob (by assumption) | exact eTx.ob (by assumption) | exact ePa.ob (by assumption) | exact eMB.ob (by assumption)) (by first | omega | exact hB _ _) ?_ | refine ev_irem dX11_stir_149 (by decide) ?_
    refine ev_callVi dX11_stir_150 (c_X11_runGive hM hT hK (by omega) (by omega) (by omega)) rfl lk_X11_269 (by first | assumption | omega | exact ePp.ob (by assumption) | exact eNm.ob (by assumption) | exact eRg.ob (by assumption) | exact eTx.ob (by assumption) | exact ePa.ob (by assumption) | exact eMB.ob (by assumption)) ⟨Nat.le_of_ble_eq_true rfl, Nat.le_of_ble_eq_true rfl⟩ rfl (Nat.le_of_ble_eq_true rfl) ⟨by first | exact Nat.le_of_ble_eq_true rfl | omega, by first | exact Nat.le_of_ble_eq_true rfl | omega⟩ (fun g_150 hg_150 => ?_)
    obtain ⟨w_150, fr_150⟩ := hg_150
    first | replace hM := eRow.fr hM (fr_150 _ (by omega)) | replace hM := eMB.fr hM (fr_150 _ (by omega)) | replace hM := eArr.fr hM (fr_150 _ (by omega)) | replace hM := Eq.trans (fr_150 _ (by omega)) hM | replace hM := eBo.fr hM (fr_150 _ (by omega)) | replace hM := ePp.fr1 hM (fun a _ _ => fr_150 a (by omega)) | replace hM := eNm.fr1 hM (fun a _ _ => fr_150 a (by omega)) | replace hM := eRg.fr hM (fun a _ _ => fr_150 a (by omega)) | replace hM := eTx.fr hM (fun a _ _ => fr_150 a (by omega)) | replace hM := ePa.fr hM (fun a _ _ => fr_150 a (by omega)) | replace hM := eRf.fr hM (fr_150 _ (by omega)) | replace hM := eSl.fr hM (fun a _ _ => fr_150 a (by omega)) | replace hM := eSe.fr hM (fun a _ _ => fr_150 a (by omega)) | replace hM := z_150 hM | replace hM := z_150
    replace hT := w_150
    first | replace FR := eFr.trans FR (eFr.one fr_150 (by omega) (by omega)) | replace FR := eFr.trans FR (eFr.wide fr_150 (by omega) (by omega)) | replace FR := eF2.a FR fr_150 | replace FR := eF2.b FR fr_150 | replace FR := eF2.c FR fr_150 | replace FR := eF2.t FR fr_150
    refine ev_istore_n dX11_stir_153 rfl (Nat.le_of_ble_eq_true rfl) ?_
    refine ev_goto (tgt := 220) dX11_stir_154 (by decide) ?_
    exact ev_vret dX11_stir_220 rfl rfl (by first | exact ⟨by rw [mTurn_p (by omega), show sPerson ρ (v / 16 % 60) (v / 16 / 64 % 6) (v / 16 / 512 % 4) = sAddP ρ (v / 16 % 60) (v / 16 / 64 % 6) (v / 16 / 512 % 4) from if_pos (decide_eq_true ⟨by omega, by omega, by omega, by omega⟩)]; exact hT, FR⟩ | exact ⟨by rw [mTurn_p (by omega), show sPerson ρ (v / 16 % 60) (v / 16 / 64 % 6) (v / 16 / 512 % 4) = ρ from if_neg (fun z => absurd (of_decide_eq_true z) (by omega))]; exact hT, FR⟩ | exact ⟨by rw [mTurn_g (by omega)]; exact hT, FR⟩ | exact ⟨by rw [mTurn_c (by omega)]; exact hT, FR⟩ | exact ⟨by rw [mTurn_b (by omega)]; exact hT, FR⟩ | exact ⟨by rw [mTurn_s (by omega)]; exact hT, FR⟩ | exact ⟨by rw [mTurn_y (by omega)]; exact hT, FR⟩) (fun _ e => Option.some.inj e) (Nat.le_of_ble_eq_true rfl) (Nat.le_of_ble_eq_true rfl)
  by_cases z_9_5 : v % 16 = 5
  · refine ev_tabN (off := 121) (tgt := 130) dX11_stir_9 (by rw [z_9_5]; decide) (by rw [z_9_5]; decide) (by rw [z_9_5]; decide) (by rw [z_9_5]; rfl) (by decide) ?_
    refine ev_aload_n dX11_stir_130 rfl rfl ?_
    refine ev_iload_n dX11_stir_131 rfl rfl ?_
    refine ev_bipush (v := nI 12) dX11_stir_132 rfl ?_
    first | refine ev_iremN dX11_stir_134 (by first | omega | exact hB _ _) (by first | assumption | omega | exact ePp.ob (by assumption) | exact eNm.ob (by assumption) | exact eRg.ob (by assumption) | exact eTx.ob (by assumption) | exact ePa.ob (by assumption) | exact eMB.ob (by assumption)) (by first | omega | exact hB _ _) ?_ | refine ev_irem dX11_stir_134 (by decide) ?_
    refine ev_iload_n dX11_stir_135 rfl rfl ?_
    refine ev_bipush (v := nI 16) dX11_stir_136 rfl ?_
    first | refine ev_idivN dX11_stir_138 (by first | omega | exact hB _ _) (by first | assumption | omega | exact ePp.ob (by assumption) | exact eNm.ob (by assumption) | exact eRg.ob (by assumption) | exact eTx.ob (by assumption) | exact ePa.ob (by assumption) | exact eMB.ob (by assumption)) (by first | omega | exact hB _ _) ?_ | refine ev_idiv dX11_stir_138 (by decide) ?_
    refine ev_bipush (v := nI 12) dX11_stir_139 rfl ?_
    first | refine ev_iremN dX11_stir_141 (by first | omega | exact hB _ _) (by first | assumption | omega | exact ePp.ob (by assumption) | exact eNm.ob (by assumption) | exact eRg.ob (by assumption) | exact eTx.ob (by assumption) | exact ePa.ob (by assumption) | exact eMB.ob (by assumption)) (by first | omega | exact hB _ _) ?_ | refine ev_irem dX11_stir_141 (by decide) ?_
    refine ev_iload_n dX11_stir_142 rfl rfl ?_
    refine ev_sipush (v := nI 256) dX11_stir_143 rfl ?_
    first | refine ev_idivN dX11_stir_146 (by first | omega | exact hB _ _) (by first | assumption | omega | exact ePp.ob (by assumption) | exact eNm.ob (by assumption) | exact eRg.ob (by assumption) | exact eTx.ob (by assumption) | exact ePa.ob (by assumption) | exact eMB.ob (by assumption)) (by first | omega | exact hB _ _) ?_ | refine ev_idiv dX11_stir_146 (by decide) ?_
    refine ev_bipush (v := nI 8) dX11_stir_147 rfl ?_
    first | refine ev_iremN dX11_stir_149 (by first | omega | exact hB _ _) (by first | assumption | omega | exact ePp.ob (by assumption) | exact eNm.ob (by assumption) | exact eRg.ob (by assumption) | exact eTx.ob (by assumption) | exact ePa.ob (by assumption) | exact eMB.ob (by assumption)) (by first | omega | exact hB _ _) ?_ | refine ev_irem dX11_stir_149 (by decide) ?_
    refine ev_callVi dX11_stir_150 (c_X11_runGive hM hT hK (by omega) (by omega) (by omega)) rfl lk_X11_269 (by first | assumption | omega | exact ePp.ob (by assumption) | exact eNm.ob (by assumption) | exact eRg.ob (by assumption) | exact eTx.ob (by assumption) | exact ePa.ob (by assumption) | exact eMB.ob (by assumption)) ⟨Nat.le_of_ble_eq_true rfl, Nat.le_of_ble_eq_true rfl⟩ rfl (Nat.le_of_ble_eq_true rfl) ⟨by first | exact Nat.le_of_ble_eq_true rfl | omega, by first | exact Nat.le_of_ble_eq_true rfl | omega⟩ (fun g_150 hg_150 => ?_)
    obtain ⟨w_150, fr_150⟩ := hg_150
    first | replace hM := eRow.fr hM (fr_150 _ (by omega)) | replace hM := eMB.fr hM (fr_150 _ (by omega)) | replace hM := eArr.fr hM (fr_150 _ (by omega)) | replace hM := Eq.trans (fr_150 _ (by omega)) hM | replace hM := eBo.fr hM (fr_150 _ (by omega)) | replace hM := ePp.fr1 hM (fun a _ _ => fr_150 a (by omega)) | replace hM := eNm.fr1 hM (fun a _ _ => fr_150 a (by omega)) | replace hM := eRg.fr hM (fun a _ _ => fr_150 a (by omega)) | replace hM := eTx.fr hM (fun a _ _ => fr_150 a (by omega)) | replace hM := ePa.fr hM (fun a _ _ => fr_150 a (by omega)) | replace hM := eRf.fr hM (fr_150 _ (by omega)) | replace hM := eSl.fr hM (fun a _ _ => fr_150 a (by omega)) | replace hM := eSe.fr hM (fun a _ _ => fr_150 a (by omega)) | replace hM := z_150 hM | replace hM := z_150
    replace hT := w_150
    first | replace FR := eFr.trans FR (eFr.one fr_150 (by omega) (by omega)) | replace FR := eFr.trans FR (eFr.wide fr_150 (by omega) (by omega)) | replace FR := eF2.a FR fr_150 | replace FR := eF2.b FR fr_150 | replace FR := eF2.c FR fr_150 | replace FR := eF2.t FR fr_150
    refine ev_istore_n dX11_stir_153 rfl (Nat.le_of_ble_eq_true rfl) ?_
    refine ev_goto (tgt := 220) dX11_stir_154 (by decide) ?_
    exact ev_vret dX11_stir_220 rfl rfl (by first | exact ⟨by rw [mTurn_p (by omega), show sPerson ρ (v / 16 % 60) (v / 16 / 64 % 6) (v / 16 / 512 % 4) = sAddP ρ (v / 16 % 60) (v / 16 / 64 % 6) (v / 16 / 512 % 4) from if_pos (decide_eq_true ⟨by omega, by omega, by omega, by omega⟩)]; exact hT, FR⟩ | exact ⟨by rw [mTurn_p (by omega), show sPerson ρ (v / 16 % 60) (v / 16 / 64 % 6) (v / 16 / 512 % 4) = ρ from if_neg (fun z => absurd (of_decide_eq_true z) (by omega))]; exact hT, FR⟩ | exact ⟨by rw [mTurn_g (by omega)]; exact hT, FR⟩ | exact ⟨by rw [mTurn_c (by omega)]; exact hT, FR⟩ | exact ⟨by rw [mTurn_b (by omega)]; exact hT, FR⟩ | exact ⟨by rw [mTurn_s (by omega)]; exact hT, FR⟩ | exact ⟨by rw [mTurn_y (by omega)]; exact hT, FR⟩) (fun _ e => Option.some.inj e) (Nat.le_of_ble_eq_true rfl) (Nat.le_of_ble_eq_true rfl)
  by_cases z_9_6 : v % 16 = 6
  · refine ev_tabN (off := 148) (tgt := 157) dX11_stir_9 (by rw [z_9_6]; decide) (by rw [z_9_6]; decide) (by rw [z_9_6]; decide) (by rw [z_9_6]; rfl) (by decide) ?_
    refine ev_aload_n dX11_stir_157 rfl rfl ?_
    refine ev_iload_n dX11_stir_158 rfl rfl ?_
    refine ev_iconst (v := nI 4) dX11_stir_159 rfl ?_
    first | refine ev_iremN dX11_stir_160 (by first | omega | exact hB _ _) (by first | assumption | omega | exact ePp.ob (by assumption) | exact eNm.ob (by assumption) | exact eRg.ob (by assumption) | exact eTx.ob (by assumption) | exact ePa.ob (by assumption) | exact eMB.ob (by assumption)) (by first | omega | exact hB _ _) ?_ | refine ev_irem dX11_stir_160 (by decide) ?_
    refine ev_iload_n dX11_stir_161 rfl rfl ?_
    refine ev_iconst (v := nI 4) dX11_stir_162 rfl ?_
    first | refine ev_idivN dX11_stir_163 (by first | omega | exact hB _ _) (by first | assumption | omega | exact ePp.ob (by assumption) | exact eNm.ob (by assumption) | exact eRg.ob (by assumption) | exact eTx.ob (by assumption) | exact ePa.ob (by assumption) | exact eMB.ob (by assumption)) (by first | omega | exact hB _ _) ?_ | refine ev_idiv dX11_stir_163 (by decide) ?_
    refine ev_bipush (v := nI 8) dX11_stir_164 rfl ?_
    first | refine ev_iremN dX11_stir_166 (by first | omega | exact hB _ _) (by first | assumption | omega | exact ePp.ob (by assumption) | exact eNm.ob (by assumption) | exact eRg.ob (by assumption) | exact eTx.ob (by assumption) | exact ePa.ob (by assumption) | exact eMB.ob (by assumption)) (by first | omega | exact hB _ _) ?_ | refine ev_irem dX11_stir_166 (by decide) ?_
    refine ev_callVi dX11_stir_167 (c_X11_runCall hM hT hI hT30 hG (by omega) (by omega)) rfl lk_X11_273 (by first | assumption | omega | exact ePp.ob (by assumption) | exact eNm.ob (by assumption) | exact eRg.ob (by assumption) | exact eTx.ob (by assumption) | exact ePa.ob (by assumption) | exact eMB.ob (by assumption)) ⟨Nat.le_of_ble_eq_true rfl, Nat.le_of_ble_eq_true rfl⟩ rfl (Nat.le_of_ble_eq_true rfl) ⟨by first | exact Nat.le_of_ble_eq_true rfl | omega, by first | exact Nat.le_of_ble_eq_true rfl | omega⟩ (fun g_167 hg_167 => ?_)
    obtain ⟨w_167, fr_167⟩ := hg_167
    first | replace hM := eRow.fr hM (fr_167 _ (by omega)) | replace hM := eMB.fr hM (fr_167 _ (by omega)) | replace hM := eArr.fr hM (fr_167 _ (by omega)) | replace hM := Eq.trans (fr_167 _ (by omega)) hM | replace hM := eBo.fr hM (fr_167 _ (by omega)) | replace hM := ePp.fr1 hM (fun a _ _ => fr_167 a (by omega)) | replace hM := eNm.fr1 hM (fun a _ _ => fr_167 a (by omega)) | replace hM := eRg.fr hM (fun a _ _ => fr_167 a (by omega)) | replace hM := eTx.fr hM (fun a _ _ => fr_167 a (by omega)) | replace hM := ePa.fr hM (fun a _ _ => fr_167 a (by omega)) | replace hM := eRf.fr hM (fr_167 _ (by omega)) | replace hM := eSl.fr hM (fun a _ _ => fr_167 a (by omega)) | replace hM := eSe.fr hM (fun a _ _ => fr_167 a (by omega)) | replace hM := z_167 hM | replace hM := z_167
    replace hT := w_167
    first | replace FR := eFr.trans FR (eFr.one fr_167 (by omega) (by omega)) | replace FR := eFr.trans FR (eFr.wide fr_167 (by omega) (by omega)) | replace FR := eF2.a FR fr_167 | replace FR := eF2.b FR fr_167 | replace FR := eF2.c FR fr_167 | replace FR := eF2.t FR fr_167
    refine ev_istore_n dX11_stir_170 rfl (Nat.le_of_ble_eq_true rfl) ?_
    refine ev_goto (tgt := 220) dX11_stir_171 (by decide) ?_
    exact ev_vret dX11_stir_220 rfl rfl (by first | exact ⟨by rw [mTurn_p (by omega), show sPerson ρ (v / 16 % 60) (v / 16 / 64 % 6) (v / 16 / 512 % 4) = sAddP ρ (v / 16 % 60) (v / 16 / 64 % 6) (v / 16 / 512 % 4) from if_pos (decide_eq_true ⟨by omega, by omega, by omega, by omega⟩)]; exact hT, FR⟩ | exact ⟨by rw [mTurn_p (by omega), show sPerson ρ (v / 16 % 60) (v / 16 / 64 % 6) (v / 16 / 512 % 4) = ρ from if_neg (fun z => absurd (of_decide_eq_true z) (by omega))]; exact hT, FR⟩ | exact ⟨by rw [mTurn_g (by omega)]; exact hT, FR⟩ | exact ⟨by rw [mTurn_c (by omega)]; exact hT, FR⟩ | exact ⟨by rw [mTurn_b (by omega)]; exact hT, FR⟩ | exact ⟨by rw [mTurn_s (by omega)]; exact hT, FR⟩ | exact ⟨by rw [mTurn_y (by omega)]; exact hT, FR⟩) (fun _ e => Option.some.inj e) (Nat.le_of_ble_eq_true rfl) (Nat.le_of_ble_eq_true rfl)
  by_cases z_9_7 : v % 16 = 7
  · refine ev_tabN (off := 148) (tgt := 157) dX11_stir_9 (by rw [z_9_7]; decide) (by rw [z_9_7]; decide) (by rw [z_9_7]; decide) (by rw [z_9_7]; rfl) (by decide) ?_
    refine ev_aload_n dX11_stir_157 rfl rfl ?_
    refine ev_iload_n dX11_stir_158 rfl rfl ?_
    refine ev_iconst (v := nI 4) dX11_stir_159 rfl ?_
    first | refine ev_iremN dX11_stir_160 (by first | omega | exact hB _ _) (by first | assumption | omega | exact ePp.ob (by assumption) | exact eNm.ob (by assumption) | exact eRg.ob (by assumption) | exact eTx.ob (by assumption) | exact ePa.ob (by assumption) | exact eMB.ob (by assumption)) (by first | omega | exact hB _ _) ?_ | refine ev_irem dX11_stir_160 (by decide) ?_
    refine ev_iload_n dX11_stir_161 rfl rfl ?_
    refine ev_iconst (v := nI 4) dX11_stir_162 rfl ?_
    first | refine ev_idivN dX11_stir_163 (by first | omega | exact hB _ _) (by first | assumption | omega | exact ePp.ob (by assumption) | exact eNm.ob (by assumption) | exact eRg.ob (by assumption) | exact eTx.ob (by assumption) | exact ePa.ob (by assumption) | exact eMB.ob (by assumption)) (by first | omega | exact hB _ _) ?_ | refine ev_idiv dX11_stir_163 (by decide) ?_
    refine ev_bipush (v := nI 8) dX11_stir_164 rfl ?_
    first | refine ev_iremN dX11_stir_166 (by first | omega | exact hB _ _) (by first | assumption | omega | exact ePp.ob (by assumption) | exact eNm.ob (by assumption) | exact eRg.ob (by assumption) | exact eTx.ob (by assumption) | exact ePa.ob (by assumption) | exact eMB.ob (by assumption)) (by first | omega | exact hB _ _) ?_ | refine ev_irem dX11_stir_166 (by decide) ?_
    refine ev_callVi dX11_stir_167 (c_X11_runCall hM hT hI hT30 hG (by omega) (by omega)) rfl lk_X11_273 (by first | assumption | omega | exact ePp.ob (by assumption) | exact eNm.ob (by assumption) | exact eRg.ob (by assumption) | exact eTx.ob (by assumption) | exact ePa.ob (by assumption) | exact eMB.ob (by assumption)) ⟨Nat.le_of_ble_eq_true rfl, Nat.le_of_ble_eq_true rfl⟩ rfl (Nat.le_of_ble_eq_true rfl) ⟨by first | exact Nat.le_of_ble_eq_true rfl | omega, by first | exact Nat.le_of_ble_eq_true rfl | omega⟩ (fun g_167 hg_167 => ?_)
    obtain ⟨w_167, fr_167⟩ := hg_167
    first | replace hM := eRow.fr hM (fr_167 _ (by omega)) | replace hM := eMB.fr hM (fr_167 _ (by omega)) | replace hM := eArr.fr hM (fr_167 _ (by omega)) | replace hM := Eq.trans (fr_167 _ (by omega)) hM | replace hM := eBo.fr hM (fr_167 _ (by omega)) | replace hM := ePp.fr1 hM (fun a _ _ => fr_167 a (by omega)) | replace hM := eNm.fr1 hM (fun a _ _ => fr_167 a (by omega)) | replace hM := eRg.fr hM (fun a _ _ => fr_167 a (by omega)) | replace hM := eTx.fr hM (fun a _ _ => fr_167 a (by omega)) | replace hM := ePa.fr hM (fun a _ _ => fr_167 a (by omega)) | replace hM := eRf.fr hM (fr_167 _ (by omega)) | replace hM := eSl.fr hM (fun a _ _ => fr_167 a (by omega)) | replace hM := eSe.fr hM (fun a _ _ => fr_167 a (by omega)) | replace hM := z_167 hM | replace hM := z_167
    replace hT := w_167
    first | replace FR := eFr.trans FR (eFr.one fr_167 (by omega) (by omega)) | replace FR := eFr.trans FR (eFr.wide fr_167 (by omega) (by omega)) | replace FR := eF2.a FR fr_167 | replace FR := eF2.b FR fr_167 | replace FR := eF2.c FR fr_167 | replace FR := eF2.t FR fr_167
    refine ev_istore_n dX11_stir_170 rfl (Nat.le_of_ble_eq_true rfl) ?_
    refine ev_goto (tgt := 220) dX11_stir_171 (by decide) ?_
    exact ev_vret dX11_stir_220 rfl rfl (by first | exact ⟨by rw [mTurn_p (by omega), show sPerson ρ (v / 16 % 60) (v / 16 / 64 % 6) (v / 16 / 512 % 4) = sAddP ρ (v / 16 % 60) (v / 16 / 64 % 6) (v / 16 / 512 % 4) from if_pos (decide_eq_true ⟨by omega, by omega, by omega, by omega⟩)]; exact hT, FR⟩ | exact ⟨by rw [mTurn_p (by omega), show sPerson ρ (v / 16 % 60) (v / 16 / 64 % 6) (v / 16 / 512 % 4) = ρ from if_neg (fun z => absurd (of_decide_eq_true z) (by omega))]; exact hT, FR⟩ | exact ⟨by rw [mTurn_g (by omega)]; exact hT, FR⟩ | exact ⟨by rw [mTurn_c (by omega)]; exact hT, FR⟩ | exact ⟨by rw [mTurn_b (by omega)]; exact hT, FR⟩ | exact ⟨by rw [mTurn_s (by omega)]; exact hT, FR⟩ | exact ⟨by rw [mTurn_y (by omega)]; exact hT, FR⟩) (fun _ e => Option.some.inj e) (Nat.le_of_ble_eq_true rfl) (Nat.le_of_ble_eq_true rfl)
  by_cases z_9_8 : v % 16 = 8
  · refine ev_tabN (off := 148) (tgt := 157) dX11_stir_9 (by rw [z_9_8]; decide) (by rw [z_9_8]; decide) (by rw [z_9_8]; decide) (by rw [z_9_8]; rfl) (by decide) ?_
    refine ev_aload_n dX11_stir_157 rfl rfl ?_
    refine ev_iload_n dX11_stir_158 rfl rfl ?_
    refine ev_iconst (v := nI 4) dX11_stir_159 rfl ?_
    first | refine ev_iremN dX11_stir_160 (by first | omega | exact hB _ _) (by first | assumption | omega | exact ePp.ob (by assumption) | exact eNm.ob (by assumption) | exact eRg.ob (by assumption) | exact eTx.ob (by assumption) | exact ePa.ob (by assumption) | exact eMB.ob (by assumption)) (by first | omega | exact hB _ _) ?_ | refine ev_irem dX11_stir_160 (by decide) ?_
    refine ev_iload_n dX11_stir_161 rfl rfl ?_
    refine ev_iconst (v := nI 4) dX11_stir_162 rfl ?_
    first | refine ev_idivN dX11_stir_163 (by first | omega | exact hB _ _) (by first | assumption | omega | exact ePp.ob (by assumption) | exact eNm.ob (by assumption) | exact eRg.ob (by assumption) | exact eTx.ob (by assumption) | exact ePa.ob (by assumption) | exact eMB.ob (by assumption)) (by first | omega | exact hB _ _) ?_ | refine ev_idiv dX11_stir_163 (by decide) ?_
    refine ev_bipush (v := nI 8) dX11_stir_164 rfl ?_
    first | refine ev_iremN dX11_stir_166 (by first | omega | exact hB _ _) (by first | assumption | omega | exact ePp.ob (by assumption) | exact eNm.ob (by assumption) | exact eRg.ob (by assumption) | exact eTx.ob (by assumption) | exact ePa.ob (by assumption) | exact eMB.ob (by assumption)) (by first | omega | exact hB _ _) ?_ | refine ev_irem dX11_stir_166 (by decide) ?_
    refine ev_callVi dX11_stir_167 (c_X11_runCall hM hT hI hT30 hG (by omega) (by omega)) rfl lk_X11_273 (by first | assumption | omega | exact ePp.ob (by assumption) | exact eNm.ob (by assumption) | exact eRg.ob (by assumption) | exact eTx.ob (by assumption) | exact ePa.ob (by assumption) | exact eMB.ob (by assumption)) ⟨Nat.le_of_ble_eq_true rfl, Nat.le_of_ble_eq_true rfl⟩ rfl (Nat.le_of_ble_eq_true rfl) ⟨by first | exact Nat.le_of_ble_eq_true rfl | omega, by first | exact Nat.le_of_ble_eq_true rfl | omega⟩ (fun g_167 hg_167 => ?_)
    obtain ⟨w_167, fr_167⟩ := hg_167
    first | replace hM := eRow.fr hM (fr_167 _ (by omega)) | replace hM := eMB.fr hM (fr_167 _ (by omega)) | replace hM := eArr.fr hM (fr_167 _ (by omega)) | replace hM := Eq.trans (fr_167 _ (by omega)) hM | replace hM := eBo.fr hM (fr_167 _ (by omega)) | replace hM := ePp.fr1 hM (fun a _ _ => fr_167 a (by omega)) | replace hM := eNm.fr1 hM (fun a _ _ => fr_167 a (by omega)) | replace hM := eRg.fr hM (fun a _ _ => fr_167 a (by omega)) | replace hM := eTx.fr hM (fun a _ _ => fr_167 a (by omega)) | replace hM := ePa.fr hM (fun a _ _ => fr_167 a (by omega)) | replace hM := eRf.fr hM (fr_167 _ (by omega)) | replace hM := eSl.fr hM (fun a _ _ => fr_167 a (by omega)) | replace hM := eSe.fr hM (fun a _ _ => fr_167 a (by omega)) | replace hM := z_167 hM | replace hM := z_167
    replace hT := w_167
    first | replace FR := eFr.trans FR (eFr.one fr_167 (by omega) (by omega)) | replace FR := eFr.trans FR (eFr.wide fr_167 (by omega) (by omega)) | replace FR := eF2.a FR fr_167 | replace FR := eF2.b FR fr_167 | replace FR := eF2.c FR fr_167 | replace FR := eF2.t FR fr_167
    refine ev_istore_n dX11_stir_170 rfl (Nat.le_of_ble_eq_true rfl) ?_
    refine ev_goto (tgt := 220) dX11_stir_171 (by decide) ?_
    exact ev_vret dX11_stir_220 rfl rfl (by first | exact ⟨by rw [mTurn_p (by omega), show sPerson ρ (v / 16 % 60) (v / 16 / 64 % 6) (v / 16 / 512 % 4) = sAddP ρ (v / 16 % 60) (v / 16 / 64 % 6) (v / 16 / 512 % 4) from if_pos (decide_eq_true ⟨by omega, by omega, by omega, by omega⟩)]; exact hT, FR⟩ | exact ⟨by rw [mTurn_p (by omega), show sPerson ρ (v / 16 % 60) (v / 16 / 64 % 6) (v / 16 / 512 % 4) = ρ from if_neg (fun z => absurd (of_decide_eq_true z) (by omega))]; exact hT, FR⟩ | exact ⟨by rw [mTurn_g (by omega)]; exact hT, FR⟩ | exact ⟨by rw [mTurn_c (by omega)]; exact hT, FR⟩ | exact ⟨by rw [mTurn_b (by omega)]; exact hT, FR⟩ | exact ⟨by rw [mTurn_s (by omega)]; exact hT, FR⟩ | exact ⟨by rw [mTurn_y (by omega)]; exact hT, FR⟩) (fun _ e => Option.some.inj e) (Nat.le_of_ble_eq_true rfl) (Nat.le_of_ble_eq_true rfl)
  by_cases z_9_9 : v % 16 = 9
  · refine ev_tabN (off := 148) (tgt := 157) dX11_stir_9 (by rw [z_9_9]; decide) (by rw [z_9_9]; decide) (by rw [z_9_9]; decide) (by rw [z_9_9]; rfl) (by decide) ?_
    refine ev_aload_n dX11_stir_157 rfl rfl ?_
    refine ev_iload_n dX11_stir_158 rfl rfl ?_
    refine ev_iconst (v := nI 4) dX11_stir_159 rfl ?_
    first | refine ev_iremN dX11_stir_160 (by first | omega | exact hB _ _) (by first | assumption | omega | exact ePp.ob (by assumption) | exact eNm.ob (by assumption) | exact eRg.ob (by assumption) | exact eTx.ob (by assumption) | exact ePa.ob (by assumption) | exact eMB.ob (by assumption)) (by first | omega | exact hB _ _) ?_ | refine ev_irem dX11_stir_160 (by decide) ?_
    refine ev_iload_n dX11_stir_161 rfl rfl ?_
    refine ev_iconst (v := nI 4) dX11_stir_162 rfl ?_
    first | refine ev_idivN dX11_stir_163 (by first | omega | exact hB _ _) (by first | assumption | omega | exact ePp.ob (by assumption) | exact eNm.ob (by assumption) | exact eRg.ob (by assumption) | exact eTx.ob (by assumption) | exact ePa.ob (by assumption) | exact eMB.ob (by assumption)) (by first | omega | exact hB _ _) ?_ | refine ev_idiv dX11_stir_163 (by decide) ?_
    refine ev_bipush (v := nI 8) dX11_stir_164 rfl ?_
    first | refine ev_iremN dX11_stir_166 (by first | omega | exact hB _ _) (by first | assumption | omega | exact ePp.ob (by assumption) | exact eNm.ob (by assumption) | exact eRg.ob (by assumption) | exact eTx.ob (by assumption) | exact ePa.ob (by assumption) | exact eMB.ob (by assumption)) (by first | omega | exact hB _ _) ?_ | refine ev_irem dX11_stir_166 (by decide) ?_
    refine ev_callVi dX11_stir_167 (c_X11_runCall hM hT hI hT30 hG (by omega) (by omega)) rfl lk_X11_273 (by first | assumption | omega | exact ePp.ob (by assumption) | exact eNm.ob (by assumption) | exact eRg.ob (by assumption) | exact eTx.ob (by assumption) | exact ePa.ob (by assumption) | exact eMB.ob (by assumption)) ⟨Nat.le_of_ble_eq_true rfl, Nat.le_of_ble_eq_true rfl⟩ rfl (Nat.le_of_ble_eq_true rfl) ⟨by first | exact Nat.le_of_ble_eq_true rfl | omega, by first | exact Nat.le_of_ble_eq_true rfl | omega⟩ (fun g_167 hg_167 => ?_)
    obtain ⟨w_167, fr_167⟩ := hg_167
    first | replace hM := eRow.fr hM (fr_167 _ (by omega)) | replace hM := eMB.fr hM (fr_167 _ (by omega)) | replace hM := eArr.fr hM (fr_167 _ (by omega)) | replace hM := Eq.trans (fr_167 _ (by omega)) hM | replace hM := eBo.fr hM (fr_167 _ (by omega)) | replace hM := ePp.fr1 hM (fun a _ _ => fr_167 a (by omega)) | replace hM := eNm.fr1 hM (fun a _ _ => fr_167 a (by omega)) | replace hM := eRg.fr hM (fun a _ _ => fr_167 a (by omega)) | replace hM := eTx.fr hM (fun a _ _ => fr_167 a (by omega)) | replace hM := ePa.fr hM (fun a _ _ => fr_167 a (by omega)) | replace hM := eRf.fr hM (fr_167 _ (by omega)) | replace hM := eSl.fr hM (fun a _ _ => fr_167 a (by omega)) | replace hM := eSe.fr hM (fun a _ _ => fr_167 a (by omega)) | replace hM := z_167 hM | replace hM := z_167
    replace hT := w_167
    first | replace FR := eFr.trans FR (eFr.one fr_167 (by omega) (by omega)) | replace FR := eFr.trans FR (eFr.wide fr_167 (by omega) (by omega)) | replace FR := eF2.a FR fr_167 | replace FR := eF2.b FR fr_167 | replace FR := eF2.c FR fr_167 | replace FR := eF2.t FR fr_167
    refine ev_istore_n dX11_stir_170 rfl (Nat.le_of_ble_eq_true rfl) ?_
    refine ev_goto (tgt := 220) dX11_stir_171 (by decide) ?_
    exact ev_vret dX11_stir_220 rfl rfl (by first | exact ⟨by rw [mTurn_p (by omega), show sPerson ρ (v / 16 % 60) (v / 16 / 64 % 6) (v / 16 / 512 % 4) = sAddP ρ (v / 16 % 60) (v / 16 / 64 % 6) (v / 16 / 512 % 4) from if_pos (decide_eq_true ⟨by omega, by omega, by omega, by omega⟩)]; exact hT, FR⟩ | exact ⟨by rw [mTurn_p (by omega), show sPerson ρ (v / 16 % 60) (v / 16 / 64 % 6) (v / 16 / 512 % 4) = ρ from if_neg (fun z => absurd (of_decide_eq_true z) (by omega))]; exact hT, FR⟩ | exact ⟨by rw [mTurn_g (by omega)]; exact hT, FR⟩ | exact ⟨by rw [mTurn_c (by omega)]; exact hT, FR⟩ | exact ⟨by rw [mTurn_b (by omega)]; exact hT, FR⟩ | exact ⟨by rw [mTurn_s (by omega)]; exact hT, FR⟩ | exact ⟨by rw [mTurn_y (by omega)]; exact hT, FR⟩) (fun _ e => Option.some.inj e) (Nat.le_of_ble_eq_true rfl) (Nat.le_of_ble_eq_true rfl)
  by_cases z_9_10 : v % 16 = 10
  · refine ev_tabN (off := 148) (tgt := 157) dX11_stir_9 (by rw [z_9_10]; decide) (by rw [z_9_10]; decide) (by rw [z_9_10]; decide) (by rw [z_9_10]; rfl) (by decide) ?_
    refine ev_aload_n dX11_stir_157 rfl rfl ?_
    refine ev_iload_n dX11_stir_158 rfl rfl ?_
    refine ev_iconst (v := nI 4) dX11_stir_159 rfl ?_
    first | refine ev_iremN dX11_stir_160 (by first | omega | exact hB _ _) (by first | assumption | omega | exact ePp.ob (by assumption) | exact eNm.ob (by assumption) | exact eRg.ob (by assumption) | exact eTx.ob (by assumption) | exact ePa.ob (by assumption) | exact eMB.ob (by assumption)) (by first | omega | exact hB _ _) ?_ | refine ev_irem dX11_stir_160 (by decide) ?_
    refine ev_iload_n dX11_stir_161 rfl rfl ?_
    refine ev_iconst (v := nI 4) dX11_stir_162 rfl ?_
    first | refine ev_idivN dX11_stir_163 (by first | omega | exact hB _ _) (by first | assumption | omega | exact ePp.ob (by assumption) | exact eNm.ob (by assumption) | exact eRg.ob (by assumption) | exact eTx.ob (by assumption) | exact ePa.ob (by assumption) | exact eMB.ob (by assumption)) (by first | omega | exact hB _ _) ?_ | refine ev_idiv dX11_stir_163 (by decide) ?_
    refine ev_bipush (v := nI 8) dX11_stir_164 rfl ?_
    first | refine ev_iremN dX11_stir_166 (by first | omega | exact hB _ _) (by first | assumption | omega | exact ePp.ob (by assumption) | exact eNm.ob (by assumption) | exact eRg.ob (by assumption) | exact eTx.ob (by assumption) | exact ePa.ob (by assumption) | exact eMB.ob (by assumption)) (by first | omega | exact hB _ _) ?_ | refine ev_irem dX11_stir_166 (by decide) ?_
    refine ev_callVi dX11_stir_167 (c_X11_runCall hM hT hI hT30 hG (by omega) (by omega)) rfl lk_X11_273 (by first | assumption | omega | exact ePp.ob (by assumption) | exact eNm.ob (by assumption) | exact eRg.ob (by assumption) | exact eTx.ob (by assumption) | exact ePa.ob (by assumption) | exact eMB.ob (by assumption)) ⟨Nat.le_of_ble_eq_true rfl, Nat.le_of_ble_eq_true rfl⟩ rfl (Nat.le_of_ble_eq_true rfl) ⟨by first | exact Nat.le_of_ble_eq_true rfl | omega, by first | exact Nat.le_of_ble_eq_true rfl | omega⟩ (fun g_167 hg_167 => ?_)
    obtain ⟨w_167, fr_167⟩ := hg_167
    first | replace hM := eRow.fr hM (fr_167 _ (by omega)) | replace hM := eMB.fr hM (fr_167 _ (by omega)) | replace hM := eArr.fr hM (fr_167 _ (by omega)) | replace hM := Eq.trans (fr_167 _ (by omega)) hM | replace hM := eBo.fr hM (fr_167 _ (by omega)) | replace hM := ePp.fr1 hM (fun a _ _ => fr_167 a (by omega)) | replace hM := eNm.fr1 hM (fun a _ _ => fr_167 a (by omega)) | replace hM := eRg.fr hM (fun a _ _ => fr_167 a (by omega)) | replace hM := eTx.fr hM (fun a _ _ => fr_167 a (by omega)) | replace hM := ePa.fr hM (fun a _ _ => fr_167 a (by omega)) | replace hM := eRf.fr hM (fr_167 _ (by omega)) | replace hM := eSl.fr hM (fun a _ _ => fr_167 a (by omega)) | replace hM := eSe.fr hM (fun a _ _ => fr_167 a (by omega)) | replace hM := z_167 hM | replace hM := z_167
    replace hT := w_167
    first | replace FR := eFr.trans FR (eFr.one fr_167 (by omega) (by omega)) | replace FR := eFr.trans FR (eFr.wide fr_167 (by omega) (by omega)) | replace FR := eF2.a FR fr_167 | replace FR := eF2.b FR fr_167 | replace FR := eF2.c FR fr_167 | replace FR := eF2.t FR fr_167
    refine ev_istore_n dX11_stir_170 rfl (Nat.le_of_ble_eq_true rfl) ?_
    refine ev_goto (tgt := 220) dX11_stir_171 (by decide) ?_
    exact ev_vret dX11_stir_220 rfl rfl (by first | exact ⟨by rw [mTurn_p (by omega), show sPerson ρ (v / 16 % 60) (v / 16 / 64 % 6) (v / 16 / 512 % 4) = sAddP ρ (v / 16 % 60) (v / 16 / 64 % 6) (v / 16 / 512 % 4) from if_pos (decide_eq_true ⟨by omega, by omega, by omega, by omega⟩)]; exact hT, FR⟩ | exact ⟨by rw [mTurn_p (by omega), show sPerson ρ (v / 16 % 60) (v / 16 / 64 % 6) (v / 16 / 512 % 4) = ρ from if_neg (fun z => absurd (of_decide_eq_true z) (by omega))]; exact hT, FR⟩ | exact ⟨by rw [mTurn_g (by omega)]; exact hT, FR⟩ | exact ⟨by rw [mTurn_c (by omega)]; exact hT, FR⟩ | exact ⟨by rw [mTurn_b (by omega)]; exact hT, FR⟩ | exact ⟨by rw [mTurn_s (by omega)]; exact hT, FR⟩ | exact ⟨by rw [mTurn_y (by omega)]; exact hT, FR⟩) (fun _ e => Option.some.inj e) (Nat.le_of_ble_eq_true rfl) (Nat.le_of_ble_eq_true rfl)
  by_cases z_9_11 : v % 16 = 11
  · refine ev_tabN (off := 148) (tgt := 157) dX11_stir_9 (by rw [z_9_11]; decide) (by rw [z_9_11]; decide) (by rw [z_9_11]; decide) (by rw [z_9_11]; rfl) (by decide) ?_
    refine ev_aload_n dX11_stir_157 rfl rfl ?_
    refine ev_iload_n dX11_stir_158 rfl rfl ?_
    refine ev_iconst (v := nI 4) dX11_stir_159 rfl ?_
    first | refine ev_iremN dX11_stir_160 (by first | omega | exact hB _ _) (by first | assumption | omega | exact ePp.ob (by assumption) | exact eNm.ob (by assumption) | exact eRg.ob (by assumption) | exact eTx.ob (by assumption) | exact ePa.ob (by assumption) | exact eMB.ob (by assumption)) (by first | omega | exact hB _ _) ?_ | refine ev_irem dX11_stir_160 (by decide) ?_
    refine ev_iload_n dX11_stir_161 rfl rfl ?_
    refine ev_iconst (v := nI 4) dX11_stir_162 rfl ?_
    first | refine ev_idivN dX11_stir_163 (by first | omega | exact hB _ _) (by first | assumption | omega | exact ePp.ob (by assumption) | exact eNm.ob (by assumption) | exact eRg.ob (by assumption) | exact eTx.ob (by assumption) | exact ePa.ob (by assumption) | exact eMB.ob (by assumption)) (by first | omega | exact hB _ _) ?_ | refine ev_idiv dX11_stir_163 (by decide) ?_
    refine ev_bipush (v := nI 8) dX11_stir_164 rfl ?_
    first | refine ev_iremN dX11_stir_166 (by first | omega | exact hB _ _) (by first | assumption | omega | exact ePp.ob (by assumption) | exact eNm.ob (by assumption) | exact eRg.ob (by assumption) | exact eTx.ob (by assumption) | exact ePa.ob (by assumption) | exact eMB.ob (by assumption)) (by first | omega | exact hB _ _) ?_ | refine ev_irem dX11_stir_166 (by decide) ?_
    refine ev_callVi dX11_stir_167 (c_X11_runCall hM hT hI hT30 hG (by omega) (by omega)) rfl lk_X11_273 (by first | assumption | omega | exact ePp.ob (by assumption) | exact eNm.ob (by assumption) | exact eRg.ob (by assumption) | exact eTx.ob (by assumption) | exact ePa.ob (by assumption) | exact eMB.ob (by assumption)) ⟨Nat.le_of_ble_eq_true rfl, Nat.le_of_ble_eq_true rfl⟩ rfl (Nat.le_of_ble_eq_true rfl) ⟨by first | exact Nat.le_of_ble_eq_true rfl | omega, by first | exact Nat.le_of_ble_eq_true rfl | omega⟩ (fun g_167 hg_167 => ?_)
    obtain ⟨w_167, fr_167⟩ := hg_167
    first | replace hM := eRow.fr hM (fr_167 _ (by omega)) | replace hM := eMB.fr hM (fr_167 _ (by omega)) | replace hM := eArr.fr hM (fr_167 _ (by omega)) | replace hM := Eq.trans (fr_167 _ (by omega)) hM | replace hM := eBo.fr hM (fr_167 _ (by omega)) | replace hM := ePp.fr1 hM (fun a _ _ => fr_167 a (by omega)) | replace hM := eNm.fr1 hM (fun a _ _ => fr_167 a (by omega)) | replace hM := eRg.fr hM (fun a _ _ => fr_167 a (by omega)) | replace hM := eTx.fr hM (fun a _ _ => fr_167 a (by omega)) | replace hM := ePa.fr hM (fun a _ _ => fr_167 a (by omega)) | replace hM := eRf.fr hM (fr_167 _ (by omega)) | replace hM := eSl.fr hM (fun a _ _ => fr_167 a (by omega)) | replace hM := eSe.fr hM (fun a _ _ => fr_167 a (by omega)) | replace hM := z_167 hM | replace hM := z_167
    replace hT := w_167
    first | replace FR := eFr.trans FR (eFr.one fr_167 (by omega) (by omega)) | replace FR := eFr.trans FR (eFr.wide fr_167 (by omega) (by omega)) | replace FR := eF2.a FR fr_167 | replace FR := eF2.b FR fr_167 | replace FR := eF2.c FR fr_167 | replace FR := eF2.t FR fr_167
    refine ev_istore_n dX11_stir_170 rfl (Nat.le_of_ble_eq_true rfl) ?_
    refine ev_goto (tgt := 220) dX11_stir_171 (by decide) ?_
    exact ev_vret dX11_stir_220 rfl rfl (by first | exact ⟨by rw [mTurn_p (by omega), show sPerson ρ (v / 16 % 60) (v / 16 / 64 % 6) (v / 16 / 512 % 4) = sAddP ρ (v / 16 % 60) (v / 16 / 64 % 6) (v / 16 / 512 % 4) from if_pos (decide_eq_true ⟨by omega, by omega, by omega, by omega⟩)]; exact hT, FR⟩ | exact ⟨by rw [mTurn_p (by omega), show sPerson ρ (v / 16 % 60) (v / 16 / 64 % 6) (v / 16 / 512 % 4) = ρ from if_neg (fun z => absurd (of_decide_eq_true z) (by omega))]; exact hT, FR⟩ | exact ⟨by rw [mTurn_g (by omega)]; exact hT, FR⟩ | exact ⟨by rw [mTurn_c (by omega)]; exact hT, FR⟩ | exact ⟨by rw [mTurn_b (by omega)]; exact hT, FR⟩ | exact ⟨by rw [mTurn_s (by omega)]; exact hT, FR⟩ | exact ⟨by rw [mTurn_y (by omega)]; exact hT, FR⟩) (fun _ e => Option.some.inj e) (Nat.le_of_ble_eq_true rfl) (Nat.le_of_ble_eq_true rfl)
  by_cases z_9_12 : v % 16 = 12
  · refine ev_tabN (off := 165) (tgt := 174) dX11_stir_9 (by rw [z_9_12]; decide) (by rw [z_9_12]; decide) (by rw [z_9_12]; decide) (by rw [z_9_12]; rfl) (by decide) ?_
    refine ev_aload_n dX11_stir_174 rfl rfl ?_
    refine ev_iload_n dX11_stir_175 rfl rfl ?_
    refine ev_bipush (v := nI 12) dX11_stir_176 rfl ?_
    first | refine ev_iremN dX11_stir_178 (by first | omega | exact hB _ _) (by first | assumption | omega | exact ePp.ob (by assumption) | exact eNm.ob (by assumption) | exact eRg.ob (by assumption) | exact eTx.ob (by assumption) | exact ePa.ob (by assumption) | exact eMB.ob (by assumption)) (by first | omega | exact hB _ _) ?_ | refine ev_irem dX11_stir_178 (by decide) ?_
    refine ev_iload_n dX11_stir_179 rfl rfl ?_
    refine ev_bipush (v := nI 16) dX11_stir_180 rfl ?_
    first | refine ev_idivN dX11_stir_182 (by first | omega | exact hB _ _) (by first | assumption | omega | exact ePp.ob (by assumption) | exact eNm.ob (by assumption) | exact eRg.ob (by assumption) | exact eTx.ob (by assumption) | exact ePa.ob (by assumption) | exact eMB.ob (by assumption)) (by first | omega | exact hB _ _) ?_ | refine ev_idiv dX11_stir_182 (by decide) ?_
    refine ev_iconst (v := nI 4) dX11_stir_183 rfl ?_
    first | refine ev_iremN dX11_stir_184 (by first | omega | exact hB _ _) (by first | assumption | omega | exact ePp.ob (by assumption) | exact eNm.ob (by assumption) | exact eRg.ob (by assumption) | exact eTx.ob (by assumption) | exact ePa.ob (by assumption) | exact eMB.ob (by assumption)) (by first | omega | exact hB _ _) ?_ | refine ev_irem dX11_stir_184 (by decide) ?_
    refine ev_callVi dX11_stir_185 (c_X11_runSit hM hT hK (by omega) (by omega)) rfl lk_X11_279 (by first | assumption | omega | exact ePp.ob (by assumption) | exact eNm.ob (by assumption) | exact eRg.ob (by assumption) | exact eTx.ob (by assumption) | exact ePa.ob (by assumption) | exact eMB.ob (by assumption)) ⟨Nat.le_of_ble_eq_true rfl, Nat.le_of_ble_eq_true rfl⟩ rfl (Nat.le_of_ble_eq_true rfl) ⟨by first | exact Nat.le_of_ble_eq_true rfl | omega, by first | exact Nat.le_of_ble_eq_true rfl | omega⟩ (fun g_185 hg_185 => ?_)
    obtain ⟨w_185, fr_185⟩ := hg_185
    first | replace hM := eRow.fr hM (fr_185 _ (by omega)) | replace hM := eMB.fr hM (fr_185 _ (by omega)) | replace hM := eArr.fr hM (fr_185 _ (by omega)) | replace hM := Eq.trans (fr_185 _ (by omega)) hM | replace hM := eBo.fr hM (fr_185 _ (by omega)) | replace hM := ePp.fr1 hM (fun a _ _ => fr_185 a (by omega)) | replace hM := eNm.fr1 hM (fun a _ _ => fr_185 a (by omega)) | replace hM := eRg.fr hM (fun a _ _ => fr_185 a (by omega)) | replace hM := eTx.fr hM (fun a _ _ => fr_185 a (by omega)) | replace hM := ePa.fr hM (fun a _ _ => fr_185 a (by omega)) | replace hM := eRf.fr hM (fr_185 _ (by omega)) | replace hM := eSl.fr hM (fun a _ _ => fr_185 a (by omega)) | replace hM := eSe.fr hM (fun a _ _ => fr_185 a (by omega)) | replace hM := z_185 hM | replace hM := z_185
    replace hT := w_185
    first | replace FR := eFr.trans FR (eFr.one fr_185 (by omega) (by omega)) | replace FR := eFr.trans FR (eFr.wide fr_185 (by omega) (by omega)) | replace FR := eF2.a FR fr_185 | replace FR := eF2.b FR fr_185 | replace FR := eF2.c FR fr_185 | replace FR := eF2.t FR fr_185
    refine ev_istore_n dX11_stir_188 rfl (Nat.le_of_ble_eq_true rfl) ?_
    refine ev_goto (tgt := 220) dX11_stir_189 (by decide) ?_
    exact ev_vret dX11_stir_220 rfl rfl (by first | exact ⟨by rw [mTurn_p (by omega), show sPerson ρ (v / 16 % 60) (v / 16 / 64 % 6) (v / 16 / 512 % 4) = sAddP ρ (v / 16 % 60) (v / 16 / 64 % 6) (v / 16 / 512 % 4) from if_pos (decide_eq_true ⟨by omega, by omega, by omega, by omega⟩)]; exact hT, FR⟩ | exact ⟨by rw [mTurn_p (by omega), show sPerson ρ (v / 16 % 60) (v / 16 / 64 % 6) (v / 16 / 512 % 4) = ρ from if_neg (fun z => absurd (of_decide_eq_true z) (by omega))]; exact hT, FR⟩ | exact ⟨by rw [mTurn_g (by omega)]; exact hT, FR⟩ | exact ⟨by rw [mTurn_c (by omega)]; exact hT, FR⟩ | exact ⟨by rw [mTurn_b (by omega)]; exact hT, FR⟩ | exact ⟨by rw [mTurn_s (by omega)]; exact hT, FR⟩ | exact ⟨by rw [mTurn_y (by omega)]; exact hT, FR⟩) (fun _ e => Option.some.inj e) (Nat.le_of_ble_eq_true rfl) (Nat.le_of_ble_eq_true rfl)
  by_cases z_9_13 : v % 16 = 13
  · refine ev_tabN (off := 183) (tgt := 192) dX11_stir_9 (by rw [z_9_13]; decide) (by rw [z_9_13]; decide) (by rw [z_9_13]; decide) (by rw [z_9_13]; rfl) (by decide) ?_
    refine ev_aload_n dX11_stir_192 rfl rfl ?_
    refine ev_iload_n dX11_stir_193 rfl rfl ?_
    refine ev_iconst (v := nI 3) dX11_stir_194 rfl ?_
    first | refine ev_iremN dX11_stir_195 (by first | omega | exact hB _ _) (by first | assumption | omega | exact ePp.ob (by assumption) | exact eNm.ob (by assumption) | exact eRg.ob (by assumption) | exact eTx.ob (by assumption) | exact ePa.ob (by assumption) | exact eMB.ob (by assumption)) (by first | omega | exact hB _ _) ?_ | refine ev_irem dX11_stir_195 (by decide) ?_
    refine ev_iconst (v := nI 1) dX11_stir_196 rfl ?_
    refine ev_iload_n dX11_stir_197 rfl rfl ?_
    refine ev_iconst (v := nI 4) dX11_stir_198 rfl ?_
    first | refine ev_idivN dX11_stir_199 (by first | omega | exact hB _ _) (by first | assumption | omega | exact ePp.ob (by assumption) | exact eNm.ob (by assumption) | exact eRg.ob (by assumption) | exact eTx.ob (by assumption) | exact ePa.ob (by assumption) | exact eMB.ob (by assumption)) (by first | omega | exact hB _ _) ?_ | refine ev_idiv dX11_stir_199 (by decide) ?_
    refine ev_iconst (v := nI 4) dX11_stir_200 rfl ?_
    first | refine ev_iremN dX11_stir_201 (by first | omega | exact hB _ _) (by first | assumption | omega | exact ePp.ob (by assumption) | exact eNm.ob (by assumption) | exact eRg.ob (by assumption) | exact eTx.ob (by assumption) | exact ePa.ob (by assumption) | exact eMB.ob (by assumption)) (by first | omega | exact hB _ _) ?_ | refine ev_irem dX11_stir_201 (by decide) ?_
    first | refine ev_iaddN dX11_stir_202 ?_ | refine ev_iadd dX11_stir_202 ?_
    refine ev_callVi dX11_stir_203 (c_X11_runSet hM hT hK (by omega) (by omega)) rfl lk_X11_282 (by first | assumption | omega | exact ePp.ob (by assumption) | exact eNm.ob (by assumption) | exact eRg.ob (by assumption) | exact eTx.ob (by assumption) | exact ePa.ob (by assumption) | exact eMB.ob (by assumption)) ⟨Nat.le_of_ble_eq_true rfl, Nat.le_of_ble_eq_true rfl⟩ rfl (Nat.le_of_ble_eq_true rfl) ⟨by first | exact Nat.le_of_ble_eq_true rfl | omega, by first | exact Nat.le_of_ble_eq_true rfl | omega⟩ (fun g_203 hg_203 => ?_)
    obtain ⟨w_203, fr_203⟩ := hg_203
    first | replace hM := eRow.fr hM (fr_203 _ (by omega)) | replace hM := eMB.fr hM (fr_203 _ (by omega)) | replace hM := eArr.fr hM (fr_203 _ (by omega)) | replace hM := Eq.trans (fr_203 _ (by omega)) hM | replace hM := eBo.fr hM (fr_203 _ (by omega)) | replace hM := ePp.fr1 hM (fun a _ _ => fr_203 a (by omega)) | replace hM := eNm.fr1 hM (fun a _ _ => fr_203 a (by omega)) | replace hM := eRg.fr hM (fun a _ _ => fr_203 a (by omega)) | replace hM := eTx.fr hM (fun a _ _ => fr_203 a (by omega)) | replace hM := ePa.fr hM (fun a _ _ => fr_203 a (by omega)) | replace hM := eRf.fr hM (fr_203 _ (by omega)) | replace hM := eSl.fr hM (fun a _ _ => fr_203 a (by omega)) | replace hM := eSe.fr hM (fun a _ _ => fr_203 a (by omega)) | replace hM := z_203 hM | replace hM := z_203
    replace hT := w_203
    first | replace FR := eFr.trans FR (eFr.one fr_203 (by omega) (by omega)) | replace FR := eFr.trans FR (eFr.wide fr_203 (by omega) (by omega)) | replace FR := eF2.a FR fr_203 | replace FR := eF2.b FR fr_203 | replace FR := eF2.c FR fr_203 | replace FR := eF2.t FR fr_203
    refine ev_istore_n dX11_stir_206 rfl (Nat.le_of_ble_eq_true rfl) ?_
    refine ev_goto (tgt := 220) dX11_stir_207 (by decide) ?_
    exact ev_vret dX11_stir_220 rfl rfl (by first | exact ⟨by rw [mTurn_p (by omega), show sPerson ρ (v / 16 % 60) (v / 16 / 64 % 6) (v / 16 / 512 % 4) = sAddP ρ (v / 16 % 60) (v / 16 / 64 % 6) (v / 16 / 512 % 4) from if_pos (decide_eq_true ⟨by omega, by omega, by omega, by omega⟩)]; exact hT, FR⟩ | exact ⟨by rw [mTurn_p (by omega), show sPerson ρ (v / 16 % 60) (v / 16 / 64 % 6) (v / 16 / 512 % 4) = ρ from if_neg (fun z => absurd (of_decide_eq_true z) (by omega))]; exact hT, FR⟩ | exact ⟨by rw [mTurn_g (by omega)]; exact hT, FR⟩ | exact ⟨by rw [mTurn_c (by omega)]; exact hT, FR⟩ | exact ⟨by rw [mTurn_b (by omega)]; exact hT, FR⟩ | exact ⟨by rw [mTurn_s (by omega)]; exact hT, FR⟩ | exact ⟨by rw [mTurn_y (by omega)]; exact hT, FR⟩) (fun _ e => Option.some.inj e) (Nat.le_of_ble_eq_true rfl) (Nat.le_of_ble_eq_true rfl)
  refine ev_tabOutN (tgt := 210) dX11_stir_9 (by first | omega | exact hB _ _) (by omega) (by decide) ?_
  refine ev_aload_n dX11_stir_210 rfl rfl ?_
  refine ev_iconst (v := nI 1) dX11_stir_211 rfl ?_
  refine ev_iload_n dX11_stir_212 rfl rfl ?_
  refine ev_iconst (v := nI 2) dX11_stir_213 rfl ?_
  first | refine ev_iremN dX11_stir_214 (by first | omega | exact hB _ _) (by first | assumption | omega | exact ePp.ob (by assumption) | exact eNm.ob (by assumption) | exact eRg.ob (by assumption) | exact eTx.ob (by assumption) | exact ePa.ob (by assumption) | exact eMB.ob (by assumption)) (by first | omega | exact hB _ _) ?_ | refine ev_irem dX11_stir_214 (by decide) ?_
  first | refine ev_iaddN dX11_stir_215 ?_ | refine ev_iadd dX11_stir_215 ?_
  refine ev_callVi dX11_stir_216 (c_X11_runYears hM hT hI hT30 (by omega)) rfl lk_X11_276 (by first | assumption | omega | exact ePp.ob (by assumption) | exact eNm.ob (by assumption) | exact eRg.ob (by assumption) | exact eTx.ob (by assumption) | exact ePa.ob (by assumption) | exact eMB.ob (by assumption)) ⟨Nat.le_of_ble_eq_true rfl, Nat.le_of_ble_eq_true rfl⟩ rfl (Nat.le_of_ble_eq_true rfl) ⟨by first | exact Nat.le_of_ble_eq_true rfl | omega, by first | exact Nat.le_of_ble_eq_true rfl | omega⟩ (fun g_216 hg_216 => ?_)
  obtain ⟨w_216, fr_216⟩ := hg_216
  first | replace hM := eRow.fr hM (fr_216 _ (by omega)) | replace hM := eMB.fr hM (fr_216 _ (by omega)) | replace hM := eArr.fr hM (fr_216 _ (by omega)) | replace hM := Eq.trans (fr_216 _ (by omega)) hM | replace hM := eBo.fr hM (fr_216 _ (by omega)) | replace hM := ePp.fr1 hM (fun a _ _ => fr_216 a (by omega)) | replace hM := eNm.fr1 hM (fun a _ _ => fr_216 a (by omega)) | replace hM := eRg.fr hM (fun a _ _ => fr_216 a (by omega)) | replace hM := eTx.fr hM (fun a _ _ => fr_216 a (by omega)) | replace hM := ePa.fr hM (fun a _ _ => fr_216 a (by omega)) | replace hM := eRf.fr hM (fr_216 _ (by omega)) | replace hM := eSl.fr hM (fun a _ _ => fr_216 a (by omega)) | replace hM := eSe.fr hM (fun a _ _ => fr_216 a (by omega)) | replace hM := z_216 hM | replace hM := z_216
  replace hT := w_216
  first | replace FR := eFr.trans FR (eFr.one fr_216 (by omega) (by omega)) | replace FR := eFr.trans FR (eFr.wide fr_216 (by omega) (by omega)) | replace FR := eF2.a FR fr_216 | replace FR := eF2.b FR fr_216 | replace FR := eF2.c FR fr_216 | replace FR := eF2.t FR fr_216
  refine ev_istore_n dX11_stir_219 rfl (Nat.le_of_ble_eq_true rfl) ?_
  exact ev_vret dX11_stir_220 rfl rfl (by first | exact ⟨by rw [mTurn_p (by omega), show sPerson ρ (v / 16 % 60) (v / 16 / 64 % 6) (v / 16 / 512 % 4) = sAddP ρ (v / 16 % 60) (v / 16 / 64 % 6) (v / 16 / 512 % 4) from if_pos (decide_eq_true ⟨by omega, by omega, by omega, by omega⟩)]; exact hT, FR⟩ | exact ⟨by rw [mTurn_p (by omega), show sPerson ρ (v / 16 % 60) (v / 16 / 64 % 6) (v / 16 / 512 % 4) = ρ from if_neg (fun z => absurd (of_decide_eq_true z) (by omega))]; exact hT, FR⟩ | exact ⟨by rw [mTurn_g (by omega)]; exact hT, FR⟩ | exact ⟨by rw [mTurn_c (by omega)]; exact hT, FR⟩ | exact ⟨by rw [mTurn_b (by omega)]; exact hT, FR⟩ | exact ⟨by rw [mTurn_s (by omega)]; exact hT, FR⟩ | exact ⟨by rw [mTurn_y (by omega)]; exact hT, FR⟩) (fun _ e => Option.some.inj e) (Nat.le_of_ble_eq_true rfl) (Nat.le_of_ble_eq_true rfl)
def mSim (σ : St) (y : Int64) : Nat → St
  | 0 => σ
  | k + 1 => mTurn (mSim σ y k) (sSimR y k)
theorem stp_sim (σ : St) (y : Int64) : ∀ k, stp (mSim σ y k) = stp (sSim σ y k)
  | 0 => rfl
  | k + 1 => by rw [mSim, sSim, stp_mturn, stp_turn, stp_turn, stp_sim σ y k]
theorem eIv.msim {σ : St} {T : Nat} {y : Int64} (h : eIv σ T) : ∀ i, eIv (mSim σ y i) (T + 2 * i)
  | 0 => h
  | i + 1 => (h.msim i).mturn.mono (by omega)
theorem sGd.msim {σ : St} {T : Nat} {y : Int64} (h : sGd σ) (hI : eIv σ T) : ∀ i, sGd (mSim σ y i)
  | 0 => h
  | i + 1 => (h.msim hI i).mturn (hI.msim i)
theorem mSim_a (σ : St) (y : Int64) (m : Nat) : nI (10000 * (sInState (mSim σ y m) 0 + sInState (mSim σ y m) 1) + 100 * mSim σ y m 0 0 + mSim σ y m 0 3) - nI (σ 0 3) = sSimA σ y m := by
  have e := stp_sim σ y m
  have e0 : sInState (mSim σ y m) 0 = sInState (sSim σ y m) 0 := show sInState (stp (mSim σ y m)) 0 = sInState (stp (sSim σ y m)) 0 from congrArg (fun τ : St => sInState τ 0) e
  have e1 : sInState (mSim σ y m) 1 = sInState (sSim σ y m) 1 := show sInState (stp (mSim σ y m)) 1 = sInState (stp (sSim σ y m)) 1 from congrArg (fun τ : St => sInState τ 1) e
  have e2 : (mSim σ y m) 0 0 = (sSim σ y m) 0 0 := show (stp (mSim σ y m)) 0 0 = (stp (sSim σ y m)) 0 0 from congrArg (fun τ : St => τ 0 0) e
  have e3 : (mSim σ y m) 0 3 = (sSim σ y m) 0 3 := show (stp (mSim σ y m)) 0 3 = (stp (sSim σ y m)) 0 3 from congrArg (fun τ : St => τ 0 3) e
  rw [e0, e1, e2, e3, ← nI_add, sSimA, Int32.sub_eq_add_neg, Int32.sub_eq_add_neg, Int32.add_assoc]
set_option maxHeartbeats 4000000 in
set_option maxRecDepth 20000 in
theorem c_X11_simulate {h : eH} {n m bad ℓ c mm T : Nat} {y : Int64} {σ : St} {x : Nat → Nat} {τ τs : Nat → St} {us : Nat → Nat} (hO : eMo h m bad σ x ℓ c τ us τs) (hI : eIv σ T) (hT29 : T < 2 ^ 29) (hG : sGd σ) (hm : 1 ≤ mm ∧ mm < 61) : kX11_simulate [.ref m, .long y, .int (nI mm)] h n (.inl (some (.int (sSimA σ y mm))), (fun g' => eMo g' m 0 σ x ℓ c τ us τs ∧ eFr h g' m (m + 9)), some n) 0 0 := by
  refine eM.of RX11 "simulate" [(0, .ref m), (1, .long y), (3, .int (nI mm))] pn_X11 rfl rfl (Nat.le_of_ble_eq_true rfl) rfl ?_
  obtain ⟨⟨ap, gd, lo, lr, hM⟩, hN, ⟨ρ, hT⟩, ⟨υ, hR⟩, hBk, hKp, ⟨hU, hu⟩, ⟨H, hH⟩, hX, hx⟩ := id hO
  have FR : eFr h h m (m + 9) := eFr.rf
  refine ev_aload_n dX11_simulate_0 rfl rfl ?_
  refine ev_iload_n dX11_simulate_1 rfl rfl ?_
  refine ev_i2l dX11_simulate_2 rfl ?_
  refine ev_lconst (v := lN 1) dX11_simulate_3 rfl ?_
  refine ev_ldc2 dX11_simulate_4 wq_X11_294 ?_
  refine ev_callSi dX11_simulate_7 c_X11_in lk_X11_45 ⟨Nat.le_of_ble_eq_true rfl, Nat.le_of_ble_eq_true rfl⟩ rfl (Nat.le_of_ble_eq_true rfl) ⟨by first | exact Nat.le_of_ble_eq_true rfl | omega, by first | exact Nat.le_of_ble_eq_true rfl | omega⟩ (eRo ?_)
  rw [i2lZ, lN_Z (by decide), show (60 : Int64).toInt = 60 by decide, nI_toInt (by omega)]
  first | ((with_reducible show eV _ _ _ (Value.int (bI _) :: _) _ _ _ _); refine ev_if_eqB (tgt := 17) dX11_simulate_10 (by decide) (fun c_10 => ?_) (fun c_10 => ?_)) | ((with_reducible show eV _ _ _ (Value.int (nI _) :: _) _ _ _ _); refine ev_if_eqN (tgt := 17) dX11_simulate_10 (by decide) (by omega) (fun c_10 => ?_) (fun c_10 => ?_)) | (refine ev_if_eqZ (tgt := 17) dX11_simulate_10 (by decide) (fun c_10 => ?_) (fun c_10 => ?_))
  · exact absurd (of_decide_eq_false c_10) (by omega)
  · refine ev_iconst (v := nI 0) dX11_simulate_13 rfl ?_
    refine ev_goto (tgt := 18) dX11_simulate_14 (by decide) ?_
    refine ev_callVi dX11_simulate_18 (c_X11_refused (w := 0) hM (by decide)) rfl lk_X11_120 (by first | assumption | omega | exact ePp.ob (by assumption) | exact eNm.ob (by assumption) | exact eRg.ob (by assumption) | exact eTx.ob (by assumption) | exact ePa.ob (by assumption) | exact eMB.ob (by assumption)) ⟨Nat.le_of_ble_eq_true rfl, Nat.le_of_ble_eq_true rfl⟩ rfl (Nat.le_of_ble_eq_true rfl) ⟨by first | exact Nat.le_of_ble_eq_true rfl | omega, by first | exact Nat.le_of_ble_eq_true rfl | omega⟩ (fun g_18 hg_18 => ?_)
    obtain ⟨w_18, fr_18⟩ := hg_18
    replace hM := w_18
    first | replace hN := eRow.fr hN (fr_18 _ (by omega)) | replace hN := eMB.fr hN (fr_18 _ (by omega)) | replace hN := eArr.fr hN (fr_18 _ (by omega)) | replace hN := Eq.trans (fr_18 _ (by omega)) hN | replace hN := eBo.fr hN (fr_18 _ (by omega)) | replace hN := ePp.fr1 hN (fun a _ _ => fr_18 a (by omega)) | replace hN := eNm.fr1 hN (fun a _ _ => fr_18 a (by omega)) | replace hN := eRg.fr hN (fun a _ _ => fr_18 a (by omega)) | replace hN := eTx.fr hN (fun a _ _ => fr_18 a (by omega)) | replace hN := ePa.fr hN (fun a _ _ => fr_18 a (by omega)) | replace hN := eRf.fr hN (fr_18 _ (by omega)) | replace hN := eSl.fr hN (fun a _ _ => fr_18 a (by omega)) | replace hN := eSe.fr hN (fun a _ _ => fr_18 a (by omega)) | replace hN := z_18 hN | replace hN := z_18
    first | replace hT := eRow.fr hT (fr_18 _ (by omega)) | replace hT := eMB.fr hT (fr_18 _ (by omega)) | replace hT := eArr.fr hT (fr_18 _ (by omega)) | replace hT := Eq.trans (fr_18 _ (by omega)) hT | replace hT := eBo.fr hT (fr_18 _ (by omega)) | replace hT := ePp.fr1 hT (fun a _ _ => fr_18 a (by omega)) | replace hT := eNm.fr1 hT (fun a _ _ => fr_18 a (by omega)) | replace hT := eRg.fr hT (fun a _ _ => fr_18 a (by omega)) | replace hT := eTx.fr hT (fun a _ _ => fr_18 a (by omega)) | replace hT := ePa.fr hT (fun a _ _ => fr_18 a (by omega)) | replace hT := eRf.fr hT (fr_18 _ (by omega)) | replace hT := eSl.fr hT (fun a _ _ => fr_18 a (by omega)) | replace hT := eSe.fr hT (fun a _ _ => fr_18 a (by omega)) | replace hT := z_18 hT | replace hT := z_18
    first | replace hR := eRow.fr hR (fr_18 _ (by omega)) | replace hR := eMB.fr hR (fr_18 _ (by omega)) | replace hR := eArr.fr hR (fr_18 _ (by omega)) | replace hR := Eq.trans (fr_18 _ (by omega)) hR | replace hR := eBo.fr hR (fr_18 _ (by omega)) | replace hR := ePp.fr1 hR (fun a _ _ => fr_18 a (by omega)) | replace hR := eNm.fr1 hR (fun a _ _ => fr_18 a (by omega)) | replace hR := eRg.fr hR (fun a _ _ => fr_18 a (by omega)) | replace hR := eTx.fr hR (fun a _ _ => fr_18 a (by omega)) | replace hR := ePa.fr hR (fun a _ _ => fr_18 a (by omega)) | replace hR := eRf.fr hR (fr_18 _ (by omega)) | replace hR := eSl.fr hR (fun a _ _ => fr_18 a (by omega)) | replace hR := eSe.fr hR (fun a _ _ => fr_18 a (by omega)) | replace hR := z_18 hR | replace hR := z_18
    first | replace hBk := eRow.fr hBk (fr_18 _ (by omega)) | replace hBk := eMB.fr hBk (fr_18 _ (by omega)) | replace hBk := eArr.fr hBk (fr_18 _ (by omega)) | replace hBk := Eq.trans (fr_18 _ (by omega)) hBk | replace hBk := eBo.fr hBk (fr_18 _ (by omega)) | replace hBk := ePp.fr1 hBk (fun a _ _ => fr_18 a (by omega)) | replace hBk := eNm.fr1 hBk (fun a _ _ => fr_18 a (by omega)) | replace hBk := eRg.fr hBk (fun a _ _ => fr_18 a (by omega)) | replace hBk := eTx.fr hBk (fun a _ _ => fr_18 a (by omega)) | replace hBk := ePa.fr hBk (fun a _ _ => fr_18 a (by omega)) | replace hBk := eRf.fr hBk (fr_18 _ (by omega)) | replace hBk := eSl.fr hBk (fun a _ _ => fr_18 a (by omega)) | replace hBk := eSe.fr hBk (fun a _ _ => fr_18 a (by omega)) | replace hBk := z_18 hBk | replace hBk := z_18
    first | replace hKp := eRow.fr hKp (fr_18 _ (by omega)) | replace hKp := eMB.fr hKp (fr_18 _ (by omega)) | replace hKp := eArr.fr hKp (fr_18 _ (by omega)) | replace hKp := Eq.trans (fr_18 _ (by omega)) hKp | replace hKp := eBo.fr hKp (fr_18 _ (by omega)) | replace hKp := ePp.fr1 hKp (fun a _ _ => fr_18 a (by omega)) | replace hKp := eNm.fr1 hKp (fun a _ _ => fr_18 a (by omega)) | replace hKp := eRg.fr hKp (fun a _ _ => fr_18 a (by omega)) | replace hKp := eTx.fr hKp (fun a _ _ => fr_18 a (by omega)) | replace hKp := ePa.fr hKp (fun a _ _ => fr_18 a (by omega)) | replace hKp := eRf.fr hKp (fr_18 _ (by omega)) | replace hKp := eSl.fr hKp (fun a _ _ => fr_18 a (by omega)) | replace hKp := eSe.fr hKp (fun a _ _ => fr_18 a (by omega)) | replace hKp := z_18 hKp | replace hKp := z_18
    first | replace hU := eRow.fr hU (fr_18 _ (by omega)) | replace hU := eMB.fr hU (fr_18 _ (by omega)) | replace hU := eArr.fr hU (fr_18 _ (by omega)) | replace hU := Eq.trans (fr_18 _ (by omega)) hU | replace hU := eBo.fr hU (fr_18 _ (by omega)) | replace hU := ePp.fr1 hU (fun a _ _ => fr_18 a (by omega)) | replace hU := eNm.fr1 hU (fun a _ _ => fr_18 a (by omega)) | replace hU := eRg.fr hU (fun a _ _ => fr_18 a (by omega)) | replace hU := eTx.fr hU (fun a _ _ => fr_18 a (by omega)) | replace hU := ePa.fr hU (fun a _ _ => fr_18 a (by omega)) | replace hU := eRf.fr hU (fr_18 _ (by omega)) | replace hU := eSl.fr hU (fun a _ _ => fr_18 a (by omega)) | replace hU := eSe.fr hU (fun a _ _ => fr_18 a (by omega)) | replace hU := z_18 hU | replace hU := z_18
    first | replace hH := eRow.fr hH (fr_18 _ (by omega)) | replace hH := eMB.fr hH (fr_18 _ (by omega)) | replace hH := eArr.fr hH (fr_18 _ (by omega)) | replace hH := Eq.trans (fr_18 _ (by omega)) hH | replace hH := eBo.fr hH (fr_18 _ (by omega)) | replace hH := ePp.fr1 hH (fun a _ _ => fr_18 a (by omega)) | replace hH := eNm.fr1 hH (fun a _ _ => fr_18 a (by omega)) | replace hH := eRg.fr hH (fun a _ _ => fr_18 a (by omega)) | replace hH := eTx.fr hH (fun a _ _ => fr_18 a (by omega)) | replace hH := ePa.fr hH (fun a _ _ => fr_18 a (by omega)) | replace hH := eRf.fr hH (fr_18 _ (by omega)) | replace hH := eSl.fr hH (fun a _ _ => fr_18 a (by omega)) | replace hH := eSe.fr hH (fun a _ _ => fr_18 a (by omega)) | replace hH := z_18 hH | replace hH := z_18
    first | replace hX := eRow.fr hX (fr_18 _ (by omega)) | replace hX := eMB.fr hX (fr_18 _ (by omega)) | replace hX := eArr.fr hX (fr_18 _ (by omega)) | replace hX := Eq.trans (fr_18 _ (by omega)) hX | replace hX := eBo.fr hX (fr_18 _ (by omega)) | replace hX := ePp.fr1 hX (fun a _ _ => fr_18 a (by omega)) | replace hX := eNm.fr1 hX (fun a _ _ => fr_18 a (by omega)) | replace hX := eRg.fr hX (fun a _ _ => fr_18 a (by omega)) | replace hX := eTx.fr hX (fun a _ _ => fr_18 a (by omega)) | replace hX := ePa.fr hX (fun a _ _ => fr_18 a (by omega)) | replace hX := eRf.fr hX (fr_18 _ (by omega)) | replace hX := eSl.fr hX (fun a _ _ => fr_18 a (by omega)) | replace hX := eSe.fr hX (fun a _ _ => fr_18 a (by omega)) | replace hX := z_18 hX | replace hX := z_18
    first | replace FR := eFr.trans FR (eFr.one fr_18 (by omega) (by omega)) | replace FR := eFr.trans FR (eFr.wide fr_18 (by omega) (by omega)) | replace FR := eF2.a FR fr_18 | replace FR := eF2.b FR fr_18 | replace FR := eF2.c FR fr_18 | replace FR := eF2.t FR fr_18
    first | ((with_reducible show eV _ _ _ (Value.int (bI _) :: _) _ _ _ _); refine ev_if_eqB (tgt := 26) dX11_simulate_21 (by decide) (fun c_21 => ?_) (fun c_21 => ?_)) | ((with_reducible show eV _ _ _ (Value.int (nI _) :: _) _ _ _ _); refine ev_if_eqN (tgt := 26) dX11_simulate_21 (by decide) (by omega) (fun c_21 => ?_) (fun c_21 => ?_)) | (refine ev_if_eqZ (tgt := 26) dX11_simulate_21 (by decide) (fun c_21 => ?_) (fun c_21 => ?_))
    · refine ev_aload_n dX11_simulate_26 rfl rfl ?_
      refine ev_getfield dX11_simulate_27 fl_X11_7 (by first | assumption | omega | exact ePp.ob (by assumption) | exact eNm.ob (by assumption) | exact eRg.ob (by assumption) | exact eTx.ob (by assumption) | exact ePa.ob (by assumption) | exact eMB.ob (by assumption)) rfl ?_
      refine ev_aload_n dX11_simulate_30 rfl rfl ?_
      refine ev_getfield dX11_simulate_31 fl_X11_13 (by first | assumption | omega | exact ePp.ob (by assumption) | exact eNm.ob (by assumption) | exact eRg.ob (by assumption) | exact eTx.ob (by assumption) | exact ePa.ob (by assumption) | exact eMB.ob (by assumption)) rfl ?_
      refine ev_callSv dX11_simulate_34 (c_X11_copy hN hT (by omega)) lk_X11_217 ⟨Nat.le_of_ble_eq_true rfl, Nat.le_of_ble_eq_true rfl⟩ rfl (Nat.le_of_ble_eq_true rfl) ⟨by first | exact Nat.le_of_ble_eq_true rfl | omega, by first | exact Nat.le_of_ble_eq_true rfl | omega⟩ (fun g_34 hg_34 => ?_)
      obtain ⟨w_34, fr_34⟩ := hg_34
      first | replace hM := eRow.fr hM (fr_34 _ (by omega)) | replace hM := eMB.fr hM (fr_34 _ (by omega)) | replace hM := eArr.fr hM (fr_34 _ (by omega)) | replace hM := Eq.trans (fr_34 _ (by omega)) hM | replace hM := eBo.fr hM (fr_34 _ (by omega)) | replace hM := ePp.fr1 hM (fun a _ _ => fr_34 a (by omega)) | replace hM := eNm.fr1 hM (fun a _ _ => fr_34 a (by omega)) | replace hM := eRg.fr hM (fun a _ _ => fr_34 a (by omega)) | replace hM := eTx.fr hM (fun a _ _ => fr_34 a (by omega)) | replace hM := ePa.fr hM (fun a _ _ => fr_34 a (by omega)) | replace hM := eRf.fr hM (fr_34 _ (by omega)) | replace hM := eSl.fr hM (fun a _ _ => fr_34 a (by omega)) | replace hM := eSe.fr hM (fun a _ _ => fr_34 a (by omega)) | replace hM := z_34 hM | replace hM := z_34
      first | replace hN := eRow.fr hN (fr_34 _ (by omega)) | replace hN := eMB.fr hN (fr_34 _ (by omega)) | replace hN := eArr.fr hN (fr_34 _ (by omega)) | replace hN := Eq.trans (fr_34 _ (by omega)) hN | replace hN := eBo.fr hN (fr_34 _ (by omega)) | replace hN := ePp.fr1 hN (fun a _ _ => fr_34 a (by omega)) | replace hN := eNm.fr1 hN (fun a _ _ => fr_34 a (by omega)) | replace hN := eRg.fr hN (fun a _ _ => fr_34 a (by omega)) | replace hN := eTx.fr hN (fun a _ _ => fr_34 a (by omega)) | replace hN := ePa.fr hN (fun a _ _ => fr_34 a (by omega)) | replace hN := eRf.fr hN (fr_34 _ (by omega)) | replace hN := eSl.fr hN (fun a _ _ => fr_34 a (by omega)) | replace hN := eSe.fr hN (fun a _ _ => fr_34 a (by omega)) | replace hN := z_34 hN | replace hN := z_34
      replace hT := w_34
      first | replace hR := eRow.fr hR (fr_34 _ (by omega)) | replace hR := eMB.fr hR (fr_34 _ (by omega)) | replace hR := eArr.fr hR (fr_34 _ (by omega)) | replace hR := Eq.trans (fr_34 _ (by omega)) hR | replace hR := eBo.fr hR (fr_34 _ (by omega)) | replace hR := ePp.fr1 hR (fun a _ _ => fr_34 a (by omega)) | replace hR := eNm.fr1 hR (fun a _ _ => fr_34 a (by omega)) | replace hR := eRg.fr hR (fun a _ _ => fr_34 a (by omega)) | replace hR := eTx.fr hR (fun a _ _ => fr_34 a (by omega)) | replace hR := ePa.fr hR (fun a _ _ => fr_34 a (by omega)) | replace hR := eRf.fr hR (fr_34 _ (by omega)) | replace hR := eSl.fr hR (fun a _ _ => fr_34 a (by omega)) | replace hR := eSe.fr hR (fun a _ _ => fr_34 a (by omega)) | replace hR := z_34 hR | replace hR := z_34
      first | replace hBk := eRow.fr hBk (fr_34 _ (by omega)) | replace hBk := eMB.fr hBk (fr_34 _ (by omega)) | replace hBk := eArr.fr hBk (fr_34 _ (by omega)) | replace hBk := Eq.trans (fr_34 _ (by omega)) hBk | replace hBk := eBo.fr hBk (fr_34 _ (by omega)) | replace hBk := ePp.fr1 hBk (fun a _ _ => fr_34 a (by omega)) | replace hBk := eNm.fr1 hBk (fun a _ _ => fr_34 a (by omega)) | replace hBk := eRg.fr hBk (fun a _ _ => fr_34 a (by omega)) | replace hBk := eTx.fr hBk (fun a _ _ => fr_34 a (by omega)) | replace hBk := ePa.fr hBk (fun a _ _ => fr_34 a (by omega)) | replace hBk := eRf.fr hBk (fr_34 _ (by omega)) | replace hBk := eSl.fr hBk (fun a _ _ => fr_34 a (by omega)) | replace hBk := eSe.fr hBk (fun a _ _ => fr_34 a (by omega)) | replace hBk := z_34 hBk | replace hBk := z_34
      first | replace hKp := eRow.fr hKp (fr_34 _ (by omega)) | replace hKp := eMB.fr hKp (fr_34 _ (by omega)) | replace hKp := eArr.fr hKp (fr_34 _ (by omega)) | replace hKp := Eq.trans (fr_34 _ (by omega)) hKp | replace hKp := eBo.fr hKp (fr_34 _ (by omega)) | replace hKp := ePp.fr1 hKp (fun a _ _ => fr_34 a (by omega)) | replace hKp := eNm.fr1 hKp (fun a _ _ => fr_34 a (by omega)) | replace hKp := eRg.fr hKp (fun a _ _ => fr_34 a (by omega)) | replace hKp := eTx.fr hKp (fun a _ _ => fr_34 a (by omega)) | replace hKp := ePa.fr hKp (fun a _ _ => fr_34 a (by omega)) | replace hKp := eRf.fr hKp (fr_34 _ (by omega)) | replace hKp := eSl.fr hKp (fun a _ _ => fr_34 a (by omega)) | replace hKp := eSe.fr hKp (fun a _ _ => fr_34 a (by omega)) | replace hKp := z_34 hKp | replace hKp := z_34
      first | replace hU := eRow.fr hU (fr_34 _ (by omega)) | replace hU := eMB.fr hU (fr_34 _ (by omega)) | replace hU := eArr.fr hU (fr_34 _ (by omega)) | replace hU := Eq.trans (fr_34 _ (by omega)) hU | replace hU := eBo.fr hU (fr_34 _ (by omega)) | replace hU := ePp.fr1 hU (fun a _ _ => fr_34 a (by omega)) | replace hU := eNm.fr1 hU (fun a _ _ => fr_34 a (by omega)) | replace hU := eRg.fr hU (fun a _ _ => fr_34 a (by omega)) | replace hU := eTx.fr hU (fun a _ _ => fr_34 a (by omega)) | replace hU := ePa.fr hU (fun a _ _ => fr_34 a (by omega)) | replace hU := eRf.fr hU (fr_34 _ (by omega)) | replace hU := eSl.fr hU (fun a _ _ => fr_34 a (by omega)) | replace hU := eSe.fr hU (fun a _ _ => fr_34 a (by omega)) | replace hU := z_34 hU | replace hU := z_34
      first | replace hH := eRow.fr hH (fr_34 _ (by omega)) | replace hH := eMB.fr hH (fr_34 _ (by omega)) | replace hH := eArr.fr hH (fr_34 _ (by omega)) | replace hH := Eq.trans (fr_34 _ (by omega)) hH | replace hH := eBo.fr hH (fr_34 _ (by omega)) | replace hH := ePp.fr1 hH (fun a _ _ => fr_34 a (by omega)) | replace hH := eNm.fr1 hH (fun a _ _ => fr_34 a (by omega)) | replace hH := eRg.fr hH (fun a _ _ => fr_34 a (by omega)) | replace hH := eTx.fr hH (fun a _ _ => fr_34 a (by omega)) | replace hH := ePa.fr hH (fun a _ _ => fr_34 a (by omega)) | replace hH := eRf.fr hH (fr_34 _ (by omega)) | replace hH := eSl.fr hH (fun a _ _ => fr_34 a (by omega)) | replace hH := eSe.fr hH (fun a _ _ => fr_34 a (by omega)) | replace hH := z_34 hH | replace hH := z_34
      first | replace hX := eRow.fr hX (fr_34 _ (by omega)) | replace hX := eMB.fr hX (fr_34 _ (by omega)) | replace hX := eArr.fr hX (fr_34 _ (by omega)) | replace hX := Eq.trans (fr_34 _ (by omega)) hX | replace hX := eBo.fr hX (fr_34 _ (by omega)) | replace hX := ePp.fr1 hX (fun a _ _ => fr_34 a (by omega)) | replace hX := eNm.fr1 hX (fun a _ _ => fr_34 a (by omega)) | replace hX := eRg.fr hX (fun a _ _ => fr_34 a (by omega)) | replace hX := eTx.fr hX (fun a _ _ => fr_34 a (by omega)) | replace hX := ePa.fr hX (fun a _ _ => fr_34 a (by omega)) | replace hX := eRf.fr hX (fr_34 _ (by omega)) | replace hX := eSl.fr hX (fun a _ _ => fr_34 a (by omega)) | replace hX := eSe.fr hX (fun a _ _ => fr_34 a (by omega)) | replace hX := z_34 hX | replace hX := z_34
      first | replace FR := eFr.trans FR (eFr.one fr_34 (by omega) (by omega)) | replace FR := eFr.trans FR (eFr.wide fr_34 (by omega) (by omega)) | replace FR := eF2.a FR fr_34 | replace FR := eF2.b FR fr_34 | replace FR := eF2.c FR fr_34 | replace FR := eF2.t FR fr_34
      refine ev_lload_n dX11_simulate_37 rfl rfl ?_
      refine ev_lstore dX11_simulate_38 (Nat.le_of_ble_eq_true rfl) ?_
      refine ev_iconst (v := nI 0) dX11_simulate_40 rfl ?_
      refine ev_istore dX11_simulate_41 (Nat.le_of_ble_eq_true rfl) ?_
      have H_43 : ∀ (d_43 : Nat) (i : Nat) (g : eH), d_43 = mm - i → (i ≤ mm) → (eRow g (m + 2) (mSim σ y i)) → (eFr g_34 g (m + 2) (m + 3)) → eV mX11_simulate 43 [(0, .ref m), (1, .long y), (3, .int (nI mm)), (4, .long (sSimX y i)), (6, .int (nI i))] [] (g, n, 0, 0) (.inl (some (.int (sSimA σ y mm))), (fun g' => eMo g' m 0 σ x ℓ c τ us τs ∧ eFr h g' m (m + 9)), some n) 0 0 := by
        intro d_43
        induction d_43 using Nat.strongRecOn with
        | _ d_43 ih_43 =>
        intro i g hd_43 hi hT F2
        have hM := hM.fr (F2 _ (by omega))
        have hN := hN.fr (F2 _ (by omega))
        refine ev_iload dX11_simulate_43 rfl ?_
        refine ev_iload_n dX11_simulate_45 rfl rfl ?_
        first | ((with_reducible show eV _ _ _ (Value.int (nI _) :: Value.int (nI _) :: _) _ _ _ _); refine ev_icmp_geN (tgt := 77) dX11_simulate_46 (by decide) (by omega) (by omega) (fun c_46 => ?_) (fun c_46 => ?_)) | ((with_reducible show eV _ _ _ (Value.int (nI _) :: _) _ _ _ _); refine ev_icmp_geZN (tgt := 77) dX11_simulate_46 (by decide) (by omega) (fun c_46 => ?_) (fun c_46 => ?_)) | ((with_reducible show eV _ _ _ (_ :: Value.int (nI _) :: _) _ _ _ _); refine ev_icmp_geNZ (tgt := 77) dX11_simulate_46 (by decide) (by omega) (fun c_46 => ?_) (fun c_46 => ?_)) | (refine ev_icmp_geZZ (tgt := 77) dX11_simulate_46 (by decide) (fun c_46 => ?_) (fun c_46 => ?_))
        · have e : i = mm := (by omega)
          subst e
          have hQK := (hI.msim (y := y) i).ok (by omega)
          have hQB := hQK.1
          have hQ40 := hQK.2.2.1
          refine ev_sipush (v := nI 10000) dX11_simulate_77 rfl ?_
          refine ev_aload_n dX11_simulate_80 rfl rfl ?_
          refine ev_getfield dX11_simulate_81 fl_X11_13 (by first | assumption | omega | exact ePp.ob (by assumption) | exact eNm.ob (by assumption) | exact eRg.ob (by assumption) | exact eTx.ob (by assumption) | exact ePa.ob (by assumption) | exact eMB.ob (by assumption)) rfl ?_
          refine ev_iconst (v := nI 0) dX11_simulate_84 rfl ?_
          refine ev_callSi dX11_simulate_85 (c_X11_inState hT hQB hQ40 (by decide)) lk_X11_226 ⟨Nat.le_of_ble_eq_true rfl, Nat.le_of_ble_eq_true rfl⟩ rfl (Nat.le_of_ble_eq_true rfl) ⟨by first | exact Nat.le_of_ble_eq_true rfl | omega, by first | exact Nat.le_of_ble_eq_true rfl | omega⟩ (eRo ?_)
          refine ev_aload_n dX11_simulate_88 rfl rfl ?_
          refine ev_getfield dX11_simulate_89 fl_X11_13 (by first | assumption | omega | exact ePp.ob (by assumption) | exact eNm.ob (by assumption) | exact eRg.ob (by assumption) | exact eTx.ob (by assumption) | exact ePa.ob (by assumption) | exact eMB.ob (by assumption)) rfl ?_
          refine ev_iconst (v := nI 1) dX11_simulate_92 rfl ?_
          refine ev_callSi dX11_simulate_93 (c_X11_inState hT hQB hQ40 (by decide)) lk_X11_226 ⟨Nat.le_of_ble_eq_true rfl, Nat.le_of_ble_eq_true rfl⟩ rfl (Nat.le_of_ble_eq_true rfl) ⟨by first | exact Nat.le_of_ble_eq_true rfl | omega, by first | exact Nat.le_of_ble_eq_true rfl | omega⟩ (eRo ?_)
          first | refine ev_iaddN dX11_simulate_96 ?_ | refine ev_iadd dX11_simulate_96 ?_
          first | refine ev_imulN dX11_simulate_97 ?_ | refine ev_imul dX11_simulate_97 ?_
          refine ev_bipush (v := nI 100) dX11_simulate_98 rfl ?_
          refine ev_aload_n dX11_simulate_100 rfl rfl ?_
          refine ev_getfield dX11_simulate_101 fl_X11_13 (by first | assumption | omega | exact ePp.ob (by assumption) | exact eNm.ob (by assumption) | exact eRg.ob (by assumption) | exact eTx.ob (by assumption) | exact ePa.ob (by assumption) | exact eMB.ob (by assumption)) rfl ?_
          refine ev_sipush (v := nI 380) dX11_simulate_104 rfl ?_
          first | refine ev_rowG (f := 0) (j := 0) dX11_simulate_107 (by assumption) (Nat.le_of_ble_eq_true rfl) (fun _ => rfl) ?_ | refine ev_ialoadA dX11_simulate_107 (by first | assumption | omega | exact ePp.ob (by assumption) | exact eNm.ob (by assumption) | exact eRg.ob (by assumption) | exact eTx.ob (by assumption) | exact ePa.ob (by assumption) | exact eMB.ob (by assumption)) (by first | assumption | omega | exact ePp.ob (by assumption) | exact eNm.ob (by assumption) | exact eRg.ob (by assumption) | exact eTx.ob (by assumption) | exact ePa.ob (by assumption) | exact eMB.ob (by assumption)) ?_
          first | refine ev_imulN dX11_simulate_108 ?_ | refine ev_imul dX11_simulate_108 ?_
          first | refine ev_iaddN dX11_simulate_109 ?_ | refine ev_iadd dX11_simulate_109 ?_
          refine ev_aload_n dX11_simulate_110 rfl rfl ?_
          refine ev_getfield dX11_simulate_111 fl_X11_13 (by first | assumption | omega | exact ePp.ob (by assumption) | exact eNm.ob (by assumption) | exact eRg.ob (by assumption) | exact eTx.ob (by assumption) | exact ePa.ob (by assumption) | exact eMB.ob (by assumption)) rfl ?_
          refine ev_sipush (v := nI 383) dX11_simulate_114 rfl ?_
          first | refine ev_rowG (f := 0) (j := 3) dX11_simulate_117 (by assumption) (Nat.le_of_ble_eq_true rfl) (fun _ => rfl) ?_ | refine ev_ialoadA dX11_simulate_117 (by first | assumption | omega | exact ePp.ob (by assumption) | exact eNm.ob (by assumption) | exact eRg.ob (by assumption) | exact eTx.ob (by assumption) | exact ePa.ob (by assumption) | exact eMB.ob (by assumption)) (by first | assumption | omega | exact ePp.ob (by assumption) | exact eNm.ob (by assumption) | exact eRg.ob (by assumption) | exact eTx.ob (by assumption) | exact ePa.ob (by assumption) | exact eMB.ob (by assumption)) ?_
          first | refine ev_iaddN dX11_simulate_118 ?_ | refine ev_iadd dX11_simulate_118 ?_
          refine ev_aload_n dX11_simulate_119 rfl rfl ?_
          refine ev_getfield dX11_simulate_120 fl_X11_7 (by first | assumption | omega | exact ePp.ob (by assumption) | exact eNm.ob (by assumption) | exact eRg.ob (by assumption) | exact eTx.ob (by assumption) | exact ePa.ob (by assumption) | exact eMB.ob (by assumption)) rfl ?_
          refine ev_sipush (v := nI 383) dX11_simulate_123 rfl ?_
          first | refine ev_rowG (f := 0) (j := 3) dX11_simulate_126 (by assumption) (Nat.le_of_ble_eq_true rfl) (fun _ => rfl) ?_ | refine ev_ialoadA dX11_simulate_126 (by first | assumption | omega | exact ePp.ob (by assumption) | exact eNm.ob (by assumption) | exact eRg.ob (by assumption) | exact eTx.ob (by assumption) | exact ePa.ob (by assumption) | exact eMB.ob (by assumption)) (by first | assumption | omega | exact ePp.ob (by assumption) | exact eNm.ob (by assumption) | exact eRg.ob (by assumption) | exact eTx.ob (by assumption) | exact ePa.ob (by assumption) | exact eMB.ob (by assumption)) ?_
          refine ev_isub dX11_simulate_127 ?_
          exact ev_iret dX11_simulate_128 rfl rfl (by exact vR (mSim_a σ y i).symm) (by exact ⟨⟨⟨_, _, _, _, hM⟩, hN, ⟨_, hT⟩, ⟨_, hR.fr (F2 _ (by omega))⟩, eArr.fr hBk (F2 _ (by omega)), eArr.fr hKp (F2 _ (by omega)), ⟨hU.fr (F2 _ (by omega)), hu⟩, ⟨_, hH.fr (F2 _ (by omega))⟩, hX.fr (F2 _ (by omega)), hx⟩, FR.trans (F2.wide (by omega) (by omega))⟩) (fun _ e => by first | exact Option.some.inj e | (have e2 := Option.some.inj e; omega)) (by first | exact Nat.le_of_ble_eq_true rfl | omega) (by first | exact Nat.le_of_ble_eq_true rfl | omega)
        · refine ev_lload dX11_simulate_49 rfl ?_
          refine ev_ldc2 dX11_simulate_51 wq_X11_296 ?_
          refine ev_lmul dX11_simulate_54 ?_
          refine ev_ldc2 dX11_simulate_55 wq_X11_298 ?_
          refine ev_ladd dX11_simulate_58 ?_
          refine ev_lstore dX11_simulate_59 (Nat.le_of_ble_eq_true rfl) ?_
          refine ev_aload_n dX11_simulate_61 rfl rfl ?_
          refine ev_lload dX11_simulate_62 rfl ?_
          refine ev_bipush (v := nI 33) dX11_simulate_64 rfl ?_
          refine ev_lushr dX11_simulate_66 rfl ?_
          refine ev_l2i dX11_simulate_67 (ush33 _) ?_
          show eV _ _ _ (Value.int (nI (sSimR y i)) :: _) _ _ _ _
          refine ev_callVv dX11_simulate_68 (c_X11_stir hM hT (hI.msim i) (by omega) (hG.msim hI i) (sSimR_lt y i)) rfl lk_X11_300 (by first | assumption | omega | exact ePp.ob (by assumption) | exact eNm.ob (by assumption) | exact eRg.ob (by assumption) | exact eTx.ob (by assumption) | exact ePa.ob (by assumption) | exact eMB.ob (by assumption)) ⟨Nat.le_of_ble_eq_true rfl, Nat.le_of_ble_eq_true rfl⟩ rfl (Nat.le_of_ble_eq_true rfl) ⟨by first | exact Nat.le_of_ble_eq_true rfl | omega, by first | exact Nat.le_of_ble_eq_true rfl | omega⟩ (fun g_68 hg_68 => ?_)
          obtain ⟨w_68, fr_68⟩ := hg_68
          replace hT := w_68
          first | replace F2 := eFr.trans F2 (eFr.one fr_68 (by omega) (by omega)) | replace F2 := eFr.trans F2 (eFr.wide fr_68 (by omega) (by omega)) | replace F2 := eF2.a F2 fr_68 | replace F2 := eF2.b F2 fr_68 | replace F2 := eF2.c F2 fr_68 | replace F2 := eF2.t F2 fr_68
          first | refine ev_iincN dX11_simulate_71 rfl (Nat.le_of_ble_eq_true rfl) ?_ | refine ev_iinc dX11_simulate_71 rfl rfl (Nat.le_of_ble_eq_true rfl) ?_
          refine ev_goto (tgt := 43) dX11_simulate_74 (by decide) ?_
          exact (ih_43 _ (by omega) (i + 1) _ rfl (by first | omega | assumption | rfl) (by exact hT) (by first | omega | assumption | rfl)).sub1 ⟨rfl, rfl, rfl, rfl, rfl, trivial⟩ rfl
      exact (H_43 _ 0 g_34 rfl (by omega) (by exact hT) (by exact eFr.rf)).sub1 ⟨rfl, rfl, rfl, rfl, rfl, trivial⟩ rfl
    · exact absurd c_21 (by decide)
set_option maxHeartbeats 4000000 in
set_option maxRecDepth 20000 in
theorem c_X11_simulate_1 {h : eH} {n m bad ℓ c : Nat} {z : Int32} {y : Int64} {σ : St} {x : Nat → Nat} {τ τs : Nat → St} {us : Nat → Nat} (hO : eMo h m bad σ x ℓ c τ us τs) (hz : ¬ (1 ≤ z.toInt ∧ z.toInt < (61 : Nat))) : kX11_simulate [.ref m, .long y, .int z] h n (.inl (some (.int (nI 0))), (fun g' => eMo g' m 1 σ x ℓ c τ us τs ∧ eFr h g' m (m + 9)), some n) 0 0 := by
  refine eM.of RX11 "simulate" [(0, .ref m), (1, .long y), (3, .int z)] pn_X11 rfl rfl (Nat.le_of_ble_eq_true rfl) rfl ?_
  obtain ⟨⟨ap, gd, lo, lr, hM⟩, hN, ⟨ρ, hT⟩, ⟨υ, hR⟩, hBk, hKp, ⟨hU, hu⟩, ⟨H, hH⟩, hX, hx⟩ := id hO
  have FR : eFr h h m (m + 9) := eFr.rf
  refine ev_aload_n dX11_simulate_0 rfl rfl ?_
  refine ev_iload_n dX11_simulate_1 rfl rfl ?_
  refine ev_i2l dX11_simulate_2 rfl ?_
  refine ev_lconst (v := lN 1) dX11_simulate_3 rfl ?_
  refine ev_ldc2 dX11_simulate_4 wq_X11_294 ?_
  refine ev_callSi dX11_simulate_7 c_X11_in lk_X11_45 ⟨Nat.le_of_ble_eq_true rfl, Nat.le_of_ble_eq_true rfl⟩ rfl (Nat.le_of_ble_eq_true rfl) ⟨by first | exact Nat.le_of_ble_eq_true rfl | omega, by first | exact Nat.le_of_ble_eq_true rfl | omega⟩ (eRo ?_)
  rw [i2lZ, lN_Z (by decide), show (60 : Int64).toInt = 60 by decide]
  first | ((with_reducible show eV _ _ _ (Value.int (bI _) :: _) _ _ _ _); refine ev_if_eqB (tgt := 17) dX11_simulate_10 (by decide) (fun c_10 => ?_) (fun c_10 => ?_)) | ((with_reducible show eV _ _ _ (Value.int (nI _) :: _) _ _ _ _); refine ev_if_eqN (tgt := 17) dX11_simulate_10 (by decide) (by first | exact hB _ _ | omega) (fun c_10 => ?_) (fun c_10 => ?_)) | (refine ev_if_eqZ (tgt := 17) dX11_simulate_10 (by decide) (fun c_10 => ?_) (fun c_10 => ?_))
  · refine ev_iconst (v := nI 1) dX11_simulate_17 rfl ?_
    refine ev_callVi dX11_simulate_18 (c_X11_refused (w := 1) hM (by decide)) rfl lk_X11_120 (by first | assumption | omega | exact ePp.ob (by assumption) | exact eNm.ob (by assumption) | exact eRg.ob (by assumption) | exact eTx.ob (by assumption) | exact ePa.ob (by assumption) | exact eMB.ob (by assumption)) ⟨Nat.le_of_ble_eq_true rfl, Nat.le_of_ble_eq_true rfl⟩ rfl (Nat.le_of_ble_eq_true rfl) ⟨by first | exact Nat.le_of_ble_eq_true rfl | omega, by first | exact Nat.le_of_ble_eq_true rfl | omega⟩ (fun g_18 hg_18 => ?_)
    obtain ⟨w_18, fr_18⟩ := hg_18
    replace hM := w_18
    first | replace hN := eRow.fr hN (fr_18 _ (by omega)) | replace hN := eMB.fr hN (fr_18 _ (by omega)) | replace hN := eArr.fr hN (fr_18 _ (by omega)) | replace hN := Eq.trans (fr_18 _ (by omega)) hN | replace hN := eBo.fr hN (fr_18 _ (by omega)) | replace hN := ePp.fr1 hN (fun a _ _ => fr_18 a (by omega)) | replace hN := eNm.fr1 hN (fun a _ _ => fr_18 a (by omega)) | replace hN := eRg.fr hN (fun a _ _ => fr_18 a (by omega)) | replace hN := eTx.fr hN (fun a _ _ => fr_18 a (by omega)) | replace hN := ePa.fr hN (fun a _ _ => fr_18 a (by omega)) | replace hN := eRf.fr hN (fr_18 _ (by omega)) | replace hN := eSl.fr hN (fun a _ _ => fr_18 a (by omega)) | replace hN := eSe.fr hN (fun a _ _ => fr_18 a (by omega)) | replace hN := z_18 hN | replace hN := z_18
    first | replace hT := eRow.fr hT (fr_18 _ (by omega)) | replace hT := eMB.fr hT (fr_18 _ (by omega)) | replace hT := eArr.fr hT (fr_18 _ (by omega)) | replace hT := Eq.trans (fr_18 _ (by omega)) hT | replace hT := eBo.fr hT (fr_18 _ (by omega)) | replace hT := ePp.fr1 hT (fun a _ _ => fr_18 a (by omega)) | replace hT := eNm.fr1 hT (fun a _ _ => fr_18 a (by omega)) | replace hT := eRg.fr hT (fun a _ _ => fr_18 a (by omega)) | replace hT := eTx.fr hT (fun a _ _ => fr_18 a (by omega)) | replace hT := ePa.fr hT (fun a _ _ => fr_18 a (by omega)) | replace hT := eRf.fr hT (fr_18 _ (by omega)) | replace hT := eSl.fr hT (fun a _ _ => fr_18 a (by omega)) | replace hT := eSe.fr hT (fun a _ _ => fr_18 a (by omega)) | replace hT := z_18 hT | replace hT := z_18
    first | replace hR := eRow.fr hR (fr_18 _ (by omega)) | replace hR := eMB.fr hR (fr_18 _ (by omega)) | replace hR := eArr.fr hR (fr_18 _ (by omega)) | replace hR := Eq.trans (fr_18 _ (by omega)) hR | replace hR := eBo.fr hR (fr_18 _ (by omega)) | replace hR := ePp.fr1 hR (fun a _ _ => fr_18 a (by omega)) | replace hR := eNm.fr1 hR (fun a _ _ => fr_18 a (by omega)) | replace hR := eRg.fr hR (fun a _ _ => fr_18 a (by omega)) | replace hR := eTx.fr hR (fun a _ _ => fr_18 a (by omega)) | replace hR := ePa.fr hR (fun a _ _ => fr_18 a (by omega)) | replace hR := eRf.fr hR (fr_18 _ (by omega)) | replace hR := eSl.fr hR (fun a _ _ => fr_18 a (by omega)) | replace hR := eSe.fr hR (fun a _ _ => fr_18 a (by omega)) | replace hR := z_18 hR | replace hR := z_18
    first | replace hBk := eRow.fr hBk (fr_18 _ (by omega)) | replace hBk := eMB.fr hBk (fr_18 _ (by omega)) | replace hBk := eArr.fr hBk (fr_18 _ (by omega)) | replace hBk := Eq.trans (fr_18 _ (by omega)) hBk | replace hBk := eBo.fr hBk (fr_18 _ (by omega)) | replace hBk := ePp.fr1 hBk (fun a _ _ => fr_18 a (by omega)) | replace hBk := eNm.fr1 hBk (fun a _ _ => fr_18 a (by omega)) | replace hBk := eRg.fr hBk (fun a _ _ => fr_18 a (by omega)) | replace hBk := eTx.fr hBk (fun a _ _ => fr_18 a (by omega)) | replace hBk := ePa.fr hBk (fun a _ _ => fr_18 a (by omega)) | replace hBk := eRf.fr hBk (fr_18 _ (by omega)) | replace hBk := eSl.fr hBk (fun a _ _ => fr_18 a (by omega)) | replace hBk := eSe.fr hBk (fun a _ _ => fr_18 a (by omega)) | replace hBk := z_18 hBk | replace hBk := z_18
    first | replace hKp := eRow.fr hKp (fr_18 _ (by omega)) | replace hKp := eMB.fr hKp (fr_18 _ (by omega)) | replace hKp := eArr.fr hKp (fr_18 _ (by omega)) | replace hKp := Eq.trans (fr_18 _ (by omega)) hKp | replace hKp := eBo.fr hKp (fr_18 _ (by omega)) | replace hKp := ePp.fr1 hKp (fun a _ _ => fr_18 a (by omega)) | replace hKp := eNm.fr1 hKp (fun a _ _ => fr_18 a (by omega)) | replace hKp := eRg.fr hKp (fun a _ _ => fr_18 a (by omega)) | replace hKp := eTx.fr hKp (fun a _ _ => fr_18 a (by omega)) | replace hKp := ePa.fr hKp (fun a _ _ => fr_18 a (by omega)) | replace hKp := eRf.fr hKp (fr_18 _ (by omega)) | replace hKp := eSl.fr hKp (fun a _ _ => fr_18 a (by omega)) | replace hKp := eSe.fr hKp (fun a _ _ => fr_18 a (by omega)) | replace hKp := z_18 hKp | replace hKp := z_18
    first | replace hU := eRow.fr hU (fr_18 _ (by omega)) | replace hU := eMB.fr hU (fr_18 _ (by omega)) | replace hU := eArr.fr hU (fr_18 _ (by omega)) | replace hU := Eq.trans (fr_18 _ (by omega)) hU | replace hU := eBo.fr hU (fr_18 _ (by omega)) | replace hU := ePp.fr1 hU (fun a _ _ => fr_18 a (by omega)) | replace hU := eNm.fr1 hU (fun a _ _ => fr_18 a (by omega)) | replace hU := eRg.fr hU (fun a _ _ => fr_18 a (by omega)) | replace hU := eTx.fr hU (fun a _ _ => fr_18 a (by omega)) | replace hU := ePa.fr hU (fun a _ _ => fr_18 a (by omega)) | replace hU := eRf.fr hU (fr_18 _ (by omega)) | replace hU := eSl.fr hU (fun a _ _ => fr_18 a (by omega)) | replace hU := eSe.fr hU (fun a _ _ => fr_18 a (by omega)) | replace hU := z_18 hU | replace hU := z_18
    first | replace hH := eRow.fr hH (fr_18 _ (by omega)) | replace hH := eMB.fr hH (fr_18 _ (by omega)) | replace hH := eArr.fr hH (fr_18 _ (by omega)) | replace hH := Eq.trans (fr_18 _ (by omega)) hH | replace hH := eBo.fr hH (fr_18 _ (by omega)) | replace hH := ePp.fr1 hH (fun a _ _ => fr_18 a (by omega)) | replace hH := eNm.fr1 hH (fun a _ _ => fr_18 a (by omega)) | replace hH := eRg.fr hH (fun a _ _ => fr_18 a (by omega)) | replace hH := eTx.fr hH (fun a _ _ => fr_18 a (by omega)) | replace hH := ePa.fr hH (fun a _ _ => fr_18 a (by omega)) | replace hH := eRf.fr hH (fr_18 _ (by omega)) | replace hH := eSl.fr hH (fun a _ _ => fr_18 a (by omega)) | replace hH := eSe.fr hH (fun a _ _ => fr_18 a (by omega)) | replace hH := z_18 hH | replace hH := z_18
    first | replace hX := eRow.fr hX (fr_18 _ (by omega)) | replace hX := eMB.fr hX (fr_18 _ (by omega)) | replace hX := eArr.fr hX (fr_18 _ (by omega)) | replace hX := Eq.trans (fr_18 _ (by omega)) hX | replace hX := eBo.fr hX (fr_18 _ (by omega)) | replace hX := ePp.fr1 hX (fun a _ _ => fr_18 a (by omega)) | replace hX := eNm.fr1 hX (fun a _ _ => fr_18 a (by omega)) | replace hX := eRg.fr hX (fun a _ _ => fr_18 a (by omega)) | replace hX := eTx.fr hX (fun a _ _ => fr_18 a (by omega)) | replace hX := ePa.fr hX (fun a _ _ => fr_18 a (by omega)) | replace hX := eRf.fr hX (fr_18 _ (by omega)) | replace hX := eSl.fr hX (fun a _ _ => fr_18 a (by omega)) | replace hX := eSe.fr hX (fun a _ _ => fr_18 a (by omega)) | replace hX := z_18 hX | replace hX := z_18
    first | replace FR := eFr.trans FR (eFr.one fr_18 (by omega) (by omega)) | replace FR := eFr.trans FR (eFr.wide fr_18 (by omega) (by omega)) | replace FR := eF2.a FR fr_18 | replace FR := eF2.b FR fr_18 | replace FR := eF2.c FR fr_18 | replace FR := eF2.t FR fr_18
    first | ((with_reducible show eV _ _ _ (Value.int (bI _) :: _) _ _ _ _); refine ev_if_eqB (tgt := 26) dX11_simulate_21 (by decide) (fun c_21 => ?_) (fun c_21 => ?_)) | ((with_reducible show eV _ _ _ (Value.int (nI _) :: _) _ _ _ _); refine ev_if_eqN (tgt := 26) dX11_simulate_21 (by decide) (by first | exact hB _ _ | omega) (fun c_21 => ?_) (fun c_21 => ?_)) | (refine ev_if_eqZ (tgt := 26) dX11_simulate_21 (by decide) (fun c_21 => ?_) (fun c_21 => ?_))
    · exact absurd c_21 (by decide)
    · refine ev_iconst (v := nI 0) dX11_simulate_24 rfl ?_
      exact ev_iret dX11_simulate_25 rfl rfl (by rfl) (by exact ⟨⟨⟨_, _, _, _, hM⟩, hN, ⟨_, hT⟩, ⟨_, hR⟩, hBk, hKp, ⟨hU, hu⟩, ⟨_, hH⟩, hX, hx⟩, FR⟩) (fun _ e => Option.some.inj e) (Nat.le_of_ble_eq_true rfl) (Nat.le_of_ble_eq_true rfl)
  · exact absurd (of_decide_eq_true c_10) (by omega)

