def sSimX (y : Int64) : Nat → Int64
  | 0 => y
  | k + 1 => sSimX y k * 6364136223846793005 + 1442695040888963407
def sSimR (y : Int64) (k : Nat) : Nat := (sSimX y (k + 1)).toUInt64.toNat / 2 ^ 33
def sSim (σ : St) (y : Int64) : Nat → St
  | 0 => σ
  | k + 1 => sTurn (sSim σ y k) (sSimR y k)
theorem eIv.sim {σ : St} {T : Nat} {y : Int64} (h : eIv σ T) : ∀ i, eIv (sSim σ y i) (T + i)
  | 0 => h
  | i + 1 => (h.sim i).turn
theorem sSimR_lt (y : Int64) (k : Nat) : sSimR y k < 2 ^ 31 := by
  have h := (sSimX y (k + 1)).toUInt64.toNat_lt
  unfold sSimR
  omega
theorem ush33 (y : Int64) : (y.toUInt64 >>> ((nI 33).toInt64.toUInt64 &&& Int64.toUInt64 63)).toInt64.toInt32 = nI (y.toUInt64.toNat / 2 ^ 33) := by
  have e : ((nI 33).toInt64.toUInt64 &&& Int64.toUInt64 63) = 33 := by decide +kernel
  rw [e]
  apply Int32.toBitVec_inj.mp
  apply BitVec.eq_of_toNat_eq
  simp [nI, Nat.shiftRight_eq_div_pow]
def sSimA (σ : St) (y : Int64) (m : Nat) : Int32 := nI (10000 * (sInState (sSim σ y m) 0 + sInState (sSim σ y m) 1) + 100 * sSim σ y m 0 0) + (nI (sSim σ y m 0 3) - nI (σ 0 3))
set_option maxHeartbeats 4000000 in
set_option maxRecDepth 20000 in
theorem c_X10_simulate {h : eH} {n b ℓ c m T : Nat} {y : Int64} {σ : St} {x : Nat → Nat} {τ τs : Nat → St} {us : Nat → Nat} (hO : eNB h b σ x ℓ c τ us τs) (hI : eIv σ T) (hT : T < 2 ^ 29) (hm : 1 ≤ m ∧ m < 61) : kX10_simulate [.ref b, .long y, .int (nI m)] h n (.inl (some (.int (sSimA σ y m))), (fun g => eNB g b σ x ℓ c τ us τs ∧ eFr h g b (b + 317)), some n) 0 0 := by
  refine eM.of RX10 "simulate" [(0, .ref b), (1, .long y), (3, .int (nI m))] pn_X10 rfl rfl (Nat.le_of_ble_eq_true rfl) rfl ?_
  obtain ⟨o0, -, oR, ⟨ρ, oR2⟩, -⟩ := id hO
  have FR : eFr h h (b + 21) (b + 38) := eFr.rf
  refine ev_iload_n dX10_simulate_0 rfl rfl ?_
  refine ev_iconst (v := nI 1) dX10_simulate_1 rfl ?_
  first | ((with_reducible show eV _ _ _ (Value.int (nI _) :: Value.int (nI _) :: _) _ _ _ _); refine ev_icmp_ltN (tgt := 11) dX10_simulate_2 (by decide) (by omega) (by omega) (fun c_2 => ?_) (fun c_2 => ?_)) | ((with_reducible show eV _ _ _ (Value.int (nI _) :: _) _ _ _ _); refine ev_icmp_ltZN (tgt := 11) dX10_simulate_2 (by decide) (by omega) (fun c_2 => ?_) (fun c_2 => ?_)) | ((with_reducible show eV _ _ _ (_ :: Value.int (nI _) :: _) _ _ _ _); refine ev_icmp_ltNZ (tgt := 11) dX10_simulate_2 (by decide) (by omega) (fun c_2 => ?_) (fun c_2 => ?_)) | (refine ev_icmp_ltZZ (tgt := 11) dX10_simulate_2 (by decide) (fun c_2 => ?_) (fun c_2 => ?_))
  · exact absurd hm (by omega)
  · refine ev_iload_n dX10_simulate_5 rfl rfl ?_
    refine ev_bipush (v := nI 60) dX10_simulate_6 rfl ?_
    first | ((with_reducible show eV _ _ _ (Value.int (nI _) :: Value.int (nI _) :: _) _ _ _ _); refine ev_icmp_leN (tgt := 22) dX10_simulate_8 (by decide) (by omega) (by omega) (fun c_8 => ?_) (fun c_8 => ?_)) | ((with_reducible show eV _ _ _ (Value.int (nI _) :: _) _ _ _ _); refine ev_icmp_leZN (tgt := 22) dX10_simulate_8 (by decide) (by omega) (fun c_8 => ?_) (fun c_8 => ?_)) | ((with_reducible show eV _ _ _ (_ :: Value.int (nI _) :: _) _ _ _ _); refine ev_icmp_leNZ (tgt := 22) dX10_simulate_8 (by decide) (by omega) (fun c_8 => ?_) (fun c_8 => ?_)) | (refine ev_icmp_leZZ (tgt := 22) dX10_simulate_8 (by decide) (fun c_8 => ?_) (fun c_8 => ?_))
    · refine ev_aload_n dX10_simulate_22 rfl rfl ?_
      refine ev_getfield dX10_simulate_23 fl_X10_23 (by first | assumption | omega | exact ePp.ob (by assumption) | exact eNm.ob (by assumption) | exact eRg.ob (by assumption) | exact eTx.ob (by assumption) | exact ePa.ob (by assumption)) rfl ?_
      refine ev_aload_n dX10_simulate_26 rfl rfl ?_
      refine ev_getfield dX10_simulate_27 fl_X10_19 (by first | assumption | omega | exact ePp.ob (by assumption) | exact eNm.ob (by assumption) | exact eRg.ob (by assumption) | exact eTx.ob (by assumption) | exact ePa.ob (by assumption)) rfl ?_
      refine ev_callVv dX10_simulate_30 (c_X5_copyFrom oR oR2 (by omega)) rfl lk_X10_309 (by first | assumption | omega | exact ePp.ob (by assumption) | exact eNm.ob (by assumption) | exact eRg.ob (by assumption) | exact eTx.ob (by assumption) | exact ePa.ob (by assumption)) ⟨Nat.le_of_ble_eq_true rfl, Nat.le_of_ble_eq_true rfl⟩ rfl (Nat.le_of_ble_eq_true rfl) ⟨Nat.le_of_ble_eq_true rfl, Nat.le_of_ble_eq_true rfl⟩ (fun g_30 hg_30 => ?_)
      obtain ⟨w_30, fr_30⟩ := hg_30
      first | replace o0 := eArr.fr o0 (fr_30 _ (by omega)) | replace o0 := Eq.trans (fr_30 _ (by omega)) o0 | replace o0 := eBo.fr o0 (fr_30 _ (by omega)) | replace o0 := z_30 o0 | replace o0 := z_30 | replace o0 := ePp.fr1 o0 (fun a _ _ => fr_30 a (by omega)) | replace o0 := eNm.fr1 o0 (fun a _ _ => fr_30 a (by omega)) | replace o0 := eRg.fr o0 (fun a _ _ => fr_30 a (by omega)) | replace o0 := eTx.fr o0 (fun a _ _ => fr_30 a (by omega)) | replace o0 := ePa.fr o0 (fun a _ _ => fr_30 a (by omega)) | replace o0 := eRf.fr o0 (fr_30 _ (by omega)) | replace o0 := eSl.fr o0 (fun a _ _ => fr_30 a (by omega)) | replace o0 := eSe.fr o0 (fun a _ _ => fr_30 a (by omega))
      first | replace oR := eArr.fr oR (fr_30 _ (by omega)) | replace oR := Eq.trans (fr_30 _ (by omega)) oR | replace oR := eBo.fr oR (fr_30 _ (by omega)) | replace oR := z_30 oR | replace oR := z_30 | replace oR := ePp.fr1 oR (fun a _ _ => fr_30 a (by omega)) | replace oR := eNm.fr1 oR (fun a _ _ => fr_30 a (by omega)) | replace oR := eRg.fr oR (fun a _ _ => fr_30 a (by omega)) | replace oR := eTx.fr oR (fun a _ _ => fr_30 a (by omega)) | replace oR := ePa.fr oR (fun a _ _ => fr_30 a (by omega)) | replace oR := eRf.fr oR (fr_30 _ (by omega)) | replace oR := eSl.fr oR (fun a _ _ => fr_30 a (by omega)) | replace oR := eSe.fr oR (fun a _ _ => fr_30 a (by omega))
      replace oR2 := w_30
      first | replace FR := eFr.trans FR (eFr.one fr_30 (by omega) (by omega)) | replace FR := eFr.trans FR (eFr.wide fr_30 (by omega) (by omega))
      refine ev_lload_n dX10_simulate_33 rfl rfl ?_
      refine ev_lstore dX10_simulate_34 (Nat.le_of_ble_eq_true rfl) ?_
      refine ev_iconst (v := nI 0) dX10_simulate_36 rfl ?_
      refine ev_istore dX10_simulate_37 (Nat.le_of_ble_eq_true rfl) ?_
      have H_39 : ∀ (d_39 : Nat) (i : Nat) (g : eH), d_39 = m - i → (i ≤ m) → (eRg g (b + 21) (sSim σ y i)) → (eFr h g (b + 21) (b + 38)) → eV mX10_simulate 39 [(0, .ref b), (1, .long y), (3, .int (nI m)), (4, .long (sSimX y i)), (6, .int (nI i))] [] (g, n, 0, 0) (.inl (some (.int (sSimA σ y m))), (fun g => eNB g b σ x ℓ c τ us τs ∧ eFr h g b (b + 317)), some n) 0 0 := by
        intro d_39
        induction d_39 using Nat.strongRecOn with
        | _ d_39 ih_39 =>
        intro i g hd_39 hi hg FR
        have o0 := (FR _ (by omega)).trans hO.1
        refine ev_iload dX10_simulate_39 rfl ?_
        refine ev_iload_n dX10_simulate_41 rfl rfl ?_
        first | ((with_reducible show eV _ _ _ (Value.int (nI _) :: Value.int (nI _) :: _) _ _ _ _); refine ev_icmp_geN (tgt := 76) dX10_simulate_42 (by decide) (by omega) (by omega) (fun c_42 => ?_) (fun c_42 => ?_)) | ((with_reducible show eV _ _ _ (Value.int (nI _) :: _) _ _ _ _); refine ev_icmp_geZN (tgt := 76) dX10_simulate_42 (by decide) (by omega) (fun c_42 => ?_) (fun c_42 => ?_)) | ((with_reducible show eV _ _ _ (_ :: Value.int (nI _) :: _) _ _ _ _); refine ev_icmp_geNZ (tgt := 76) dX10_simulate_42 (by decide) (by omega) (fun c_42 => ?_) (fun c_42 => ?_)) | (refine ev_icmp_geZZ (tgt := 76) dX10_simulate_42 (by decide) (fun c_42 => ?_) (fun c_42 => ?_))
        · have e : i = m := (by omega)
          subst e
          have hO2 := hO.trial hg FR
          have oR := hO2.2.2.1
          obtain ⟨s0, sP, sN, sS⟩ := id hg
          obtain ⟨r0, -⟩ := id oR
          refine ev_sipush (v := nI 10000) dX10_simulate_76 rfl ?_
          refine ev_aload_n dX10_simulate_79 rfl rfl ?_
          refine ev_getfield dX10_simulate_80 fl_X10_23 (by first | assumption | omega | exact ePp.ob (by assumption) | exact eNm.ob (by assumption) | exact eRg.ob (by assumption) | exact eTx.ob (by assumption) | exact ePa.ob (by assumption)) rfl ?_
          refine ev_getfield dX10_simulate_83 fl_X10_100 (by first | assumption | omega | exact ePp.ob (by assumption) | exact eNm.ob (by assumption) | exact eRg.ob (by assumption) | exact eTx.ob (by assumption) | exact ePa.ob (by assumption)) rfl ?_
          refine ev_callVi dX10_simulate_86 (c_X2_alive sN (((hI.sim i).ok (by omega)).1)) rfl lk_X10_332 (by first | assumption | omega | exact ePp.ob (by assumption) | exact eNm.ob (by assumption) | exact eRg.ob (by assumption) | exact eTx.ob (by assumption) | exact ePa.ob (by assumption)) ⟨Nat.le_of_ble_eq_true rfl, Nat.le_of_ble_eq_true rfl⟩ rfl (Nat.le_of_ble_eq_true rfl) ⟨Nat.le_of_ble_eq_true rfl, Nat.le_of_ble_eq_true rfl⟩ (eRo ?_)
          first | refine ev_imulN dX10_simulate_89 ?_ | refine ev_imul dX10_simulate_89 ?_
          refine ev_top (pk_mul _ _) ?_
          refine ev_bipush (v := nI 100) dX10_simulate_90 rfl ?_
          refine ev_aload_n dX10_simulate_92 rfl rfl ?_
          refine ev_getfield dX10_simulate_93 fl_X10_23 (by first | assumption | omega | exact ePp.ob (by assumption) | exact eNm.ob (by assumption) | exact eRg.ob (by assumption) | exact eTx.ob (by assumption) | exact ePa.ob (by assumption)) rfl ?_
          refine ev_getfield dX10_simulate_96 fl_X10_91 (by first | assumption | omega | exact ePp.ob (by assumption) | exact eNm.ob (by assumption) | exact eRg.ob (by assumption) | exact eTx.ob (by assumption) | exact ePa.ob (by assumption)) rfl ?_
          refine ev_getfield dX10_simulate_99 fl_X10_95 (by first | assumption | omega | exact ePp.ob (by assumption) | exact eNm.ob (by assumption) | exact eRg.ob (by assumption) | exact eTx.ob (by assumption) | exact ePa.ob (by assumption)) rfl ?_
          first | refine ev_imulN dX10_simulate_102 ?_ | refine ev_imul dX10_simulate_102 ?_
          first | refine ev_iaddN dX10_simulate_103 ?_ | refine ev_iadd dX10_simulate_103 ?_
          refine ev_aload_n dX10_simulate_104 rfl rfl ?_
          refine ev_getfield dX10_simulate_105 fl_X10_23 (by first | assumption | omega | exact ePp.ob (by assumption) | exact eNm.ob (by assumption) | exact eRg.ob (by assumption) | exact eTx.ob (by assumption) | exact ePa.ob (by assumption)) rfl ?_
          refine ev_getfield dX10_simulate_108 fl_X10_117 (by first | assumption | omega | exact ePp.ob (by assumption) | exact eNm.ob (by assumption) | exact eRg.ob (by assumption) | exact eTx.ob (by assumption) | exact ePa.ob (by assumption)) rfl ?_
          refine ev_aload_n dX10_simulate_111 rfl rfl ?_
          refine ev_getfield dX10_simulate_112 fl_X10_19 (by first | assumption | omega | exact ePp.ob (by assumption) | exact eNm.ob (by assumption) | exact eRg.ob (by assumption) | exact eTx.ob (by assumption) | exact ePa.ob (by assumption)) rfl ?_
          refine ev_getfield dX10_simulate_115 fl_X10_117 (by first | assumption | omega | exact ePp.ob (by assumption) | exact eNm.ob (by assumption) | exact eRg.ob (by assumption) | exact eTx.ob (by assumption) | exact ePa.ob (by assumption)) rfl ?_
          first | refine ev_isubN dX10_simulate_118 (by first | assumption | omega | exact ePp.ob (by assumption) | exact eNm.ob (by assumption) | exact eRg.ob (by assumption) | exact eTx.ob (by assumption) | exact ePa.ob (by assumption)) ?_ | refine ev_isub dX10_simulate_118 ?_
          first | refine ev_iaddN dX10_simulate_119 ?_ | refine ev_iadd dX10_simulate_119 ?_
          exact ev_iret dX10_simulate_120 rfl rfl (by rfl) (by exact ⟨hO2, FR.wide (by omega) (by omega)⟩) (fun _ e => Option.some.inj e) (Nat.le_of_ble_eq_true rfl) (Nat.le_of_ble_eq_true rfl)
        · refine ev_lload dX10_simulate_45 rfl ?_
          refine ev_ldc2 dX10_simulate_47 wq_X10_322 ?_
          refine ev_lmul dX10_simulate_50 ?_
          refine ev_ldc2 dX10_simulate_51 wq_X10_324 ?_
          refine ev_ladd dX10_simulate_54 ?_
          refine ev_lstore dX10_simulate_55 (Nat.le_of_ble_eq_true rfl) ?_
          refine ev_aload_n dX10_simulate_57 rfl rfl ?_
          refine ev_getfield dX10_simulate_58 fl_X10_23 (by first | assumption | omega | exact ePp.ob (by assumption) | exact eNm.ob (by assumption) | exact eRg.ob (by assumption) | exact eTx.ob (by assumption) | exact ePa.ob (by assumption)) rfl ?_
          refine ev_lload dX10_simulate_61 rfl ?_
          refine ev_bipush (v := nI 33) dX10_simulate_63 rfl ?_
          refine ev_lushr dX10_simulate_65 rfl ?_
          refine ev_l2i dX10_simulate_66 (ush33 _) ?_
          show eV _ _ _ (Value.int (nI (sSimR y i)) :: _) _ _ _ _
          refine ev_callSv dX10_simulate_67 (c_X7_takeTurn hg (hI.sim i) (by omega) (sSimR_lt y i)) lk_X10_326 ⟨Nat.le_of_ble_eq_true rfl, Nat.le_of_ble_eq_true rfl⟩ rfl (Nat.le_of_ble_eq_true rfl) ⟨Nat.le_of_ble_eq_true rfl, Nat.le_of_ble_eq_true rfl⟩ (fun g_67 hg_67 => ?_)
          obtain ⟨w_67, fr_67⟩ := hg_67
          first | replace o0 := eArr.fr o0 (fr_67 _ (by omega)) | replace o0 := Eq.trans (fr_67 _ (by omega)) o0 | replace o0 := eBo.fr o0 (fr_67 _ (by omega)) | replace o0 := z_67 o0 | replace o0 := z_67 | replace o0 := ePp.fr1 o0 (fun a _ _ => fr_67 a (by omega)) | replace o0 := eNm.fr1 o0 (fun a _ _ => fr_67 a (by omega)) | replace o0 := eRg.fr o0 (fun a _ _ => fr_67 a (by omega)) | replace o0 := eTx.fr o0 (fun a _ _ => fr_67 a (by omega)) | replace o0 := ePa.fr o0 (fun a _ _ => fr_67 a (by omega)) | replace o0 := eRf.fr o0 (fr_67 _ (by omega)) | replace o0 := eSl.fr o0 (fun a _ _ => fr_67 a (by omega)) | replace o0 := eSe.fr o0 (fun a _ _ => fr_67 a (by omega))
          replace hg := w_67
          first | replace FR := eFr.trans FR (eFr.one fr_67 (by omega) (by omega)) | replace FR := eFr.trans FR (eFr.wide fr_67 (by omega) (by omega))
          first | refine ev_iincN dX10_simulate_70 rfl (Nat.le_of_ble_eq_true rfl) ?_ | refine ev_iinc dX10_simulate_70 rfl rfl (Nat.le_of_ble_eq_true rfl) ?_
          refine ev_goto (tgt := 39) dX10_simulate_73 (by decide) ?_
          exact (ih_39 _ (by omega) (i + 1) _ rfl (by first | omega | assumption | rfl) (by exact hg) (by first | omega | assumption | rfl)).sub1 ⟨rfl, rfl, rfl, rfl, rfl, trivial⟩ rfl
      exact (H_39 _ 0 g_30 rfl (by omega) (by exact oR2) (by assumption)).sub1 ⟨rfl, rfl, rfl, rfl, rfl, trivial⟩ rfl
    · exact absurd hm (by omega)
set_option maxHeartbeats 4000000 in
set_option maxRecDepth 20000 in
theorem c_X10_simulate_1 {h : eH} {n b : Nat} {z : Int32} {y : Int64} (hz : ¬ (1 ≤ z.toInt ∧ z.toInt < (61 : Nat))) : kX10_simulate [.ref b, .long y, .int z] h n (.inr "java/lang/IllegalArgumentException", (· = h), none) 1 6 := by
  refine eM.of RX10 "simulate" [(0, .ref b), (1, .long y), (3, .int z)] pn_X10 rfl rfl (Nat.le_of_ble_eq_true rfl) rfl ?_
  refine ev_iload_n dX10_simulate_0 rfl rfl ?_
  refine ev_iconst (v := nI 1) dX10_simulate_1 rfl ?_
  first | ((with_reducible show eV _ _ _ (Value.int (nI _) :: Value.int (nI _) :: _) _ _ _ _); refine ev_icmp_ltN (tgt := 11) dX10_simulate_2 (by decide) (by first | exact hB _ _ | omega) (by first | exact hB _ _ | omega) (fun c_2 => ?_) (fun c_2 => ?_)) | ((with_reducible show eV _ _ _ (Value.int (nI _) :: _) _ _ _ _); refine ev_icmp_ltZN (tgt := 11) dX10_simulate_2 (by decide) (by first | exact hB _ _ | omega) (fun c_2 => ?_) (fun c_2 => ?_)) | ((with_reducible show eV _ _ _ (_ :: Value.int (nI _) :: _) _ _ _ _); refine ev_icmp_ltNZ (tgt := 11) dX10_simulate_2 (by decide) (by first | exact hB _ _ | omega) (fun c_2 => ?_) (fun c_2 => ?_)) | (refine ev_icmp_ltZZ (tgt := 11) dX10_simulate_2 (by decide) (fun c_2 => ?_) (fun c_2 => ?_))
  · exact ev_throwSW (text := "1 to 60 turns") dX10_simulate_11 dX10_simulate_14 dX10_simulate_15 dX10_simulate_18 dX10_simulate_21 (by decide +kernel) (by decide +kernel) wk_X10_47 wi_java_lang_IllegalArgumentException (by decide +kernel) th_X10_51 tg_X10_47_51 rfl (Nat.le_of_ble_eq_true rfl) (Nat.le_of_ble_eq_true rfl) (Nat.le_of_ble_eq_true rfl) (Nat.le_of_ble_eq_true rfl) rfl (by rfl)
  · refine ev_iload_n dX10_simulate_5 rfl rfl ?_
    refine ev_bipush (v := nI 60) dX10_simulate_6 rfl ?_
    first | ((with_reducible show eV _ _ _ (Value.int (nI _) :: Value.int (nI _) :: _) _ _ _ _); refine ev_icmp_leN (tgt := 22) dX10_simulate_8 (by decide) (by first | exact hB _ _ | omega) (by first | exact hB _ _ | omega) (fun c_8 => ?_) (fun c_8 => ?_)) | ((with_reducible show eV _ _ _ (Value.int (nI _) :: _) _ _ _ _); refine ev_icmp_leZN (tgt := 22) dX10_simulate_8 (by decide) (by first | exact hB _ _ | omega) (fun c_8 => ?_) (fun c_8 => ?_)) | ((with_reducible show eV _ _ _ (_ :: Value.int (nI _) :: _) _ _ _ _); refine ev_icmp_leNZ (tgt := 22) dX10_simulate_8 (by decide) (by first | exact hB _ _ | omega) (fun c_8 => ?_) (fun c_8 => ?_)) | (refine ev_icmp_leZZ (tgt := 22) dX10_simulate_8 (by decide) (fun c_8 => ?_) (fun c_8 => ?_))
    · exact absurd hz (by omega)
    · exact ev_throwSW (text := "1 to 60 turns") dX10_simulate_11 dX10_simulate_14 dX10_simulate_15 dX10_simulate_18 dX10_simulate_21 (by decide +kernel) (by decide +kernel) wk_X10_47 wi_java_lang_IllegalArgumentException (by decide +kernel) th_X10_51 tg_X10_47_51 rfl (Nat.le_of_ble_eq_true rfl) (Nat.le_of_ble_eq_true rfl) (Nat.le_of_ble_eq_true rfl) (Nat.le_of_ble_eq_true rfl) rfl (by rfl)
set_option maxHeartbeats 4000000 in
set_option maxRecDepth 20000 in
theorem c_X10_save {h : eH} {n b ℓ c s : Nat} {σ : St} {x : Nat → Nat} {τ τs : Nat → St} {us : Nat → Nat} (hO : eNB h b σ x ℓ c τ us τs) (hs : s < 2) : kX10_save [.ref b, .int (nI s)] h n (.inl (some (.int (nI (σ 0 1)))), (fun g => eNB g b σ x ℓ c τ (fun i => if i = s then 1 else us i) (fun i => if i = s then σ else τs i) ∧ eFr h g b (b + 317)), some n) 0 0 := by
  refine eM.of RX10 "save" [(0, .ref b), (1, .int (nI s))] pn_X10 rfl rfl (Nat.le_of_ble_eq_true rfl) rfl ?_
  obtain ⟨o0, ⟨k0, u0, oT, hsm⟩, oR, ⟨ρ, oR2⟩, ⟨f0, oP⟩, oS, ⟨wt, oW⟩⟩ := id hO
  have FR : eFr h h b (b + 317) := eFr.rf
  obtain ⟨q0, q1, q2, q3, q4⟩ := id oS
  obtain ⟨F, hF, hF2⟩ := id q1
  have hρ := q4 s hs
  have hh : ∀ i, i < 2 → eRg h (b + 278 + 3 + 17 * i) (τs i) := q4
  refine ev_iload_n dX10_save_0 rfl rfl ?_
  refine ev_callSv dX10_save_1 (c_X10_requireSlot hs) lk_X10_335 ⟨Nat.le_of_ble_eq_true rfl, Nat.le_of_ble_eq_true rfl⟩ rfl (Nat.le_of_ble_eq_true rfl) ⟨Nat.le_of_ble_eq_true rfl, Nat.le_of_ble_eq_true rfl⟩ (eRo ?_)
  refine ev_aload_n dX10_save_4 rfl rfl ?_
  refine ev_getfield dX10_save_5 fl_X10_36 (by first | assumption | omega | exact ePp.ob (by assumption) | exact eNm.ob (by assumption) | exact eRg.ob (by assumption) | exact eTx.ob (by assumption) | exact ePa.ob (by assumption)) rfl ?_
  refine ev_getfield dX10_save_8 fl_X10_338 (by first | assumption | omega | exact ePp.ob (by assumption) | exact eNm.ob (by assumption) | exact eRg.ob (by assumption) | exact eTx.ob (by assumption) | exact ePa.ob (by assumption)) rfl ?_
  refine ev_iload_n dX10_save_11 rfl rfl ?_
  refine ev_aaloadN dX10_save_12 hF hs (by decide) ?_
  rw [hF2 _ hs]
  show eV _ _ _ (Value.ref (b + 278 + 3 + 17 * s) :: _) _ _ _ _
  refine ev_aload_n dX10_save_13 rfl rfl ?_
  refine ev_getfield dX10_save_14 fl_X10_19 (by first | assumption | omega | exact ePp.ob (by assumption) | exact eNm.ob (by assumption) | exact eRg.ob (by assumption) | exact eTx.ob (by assumption) | exact ePa.ob (by assumption)) rfl ?_
  refine ev_callVv dX10_save_17 (c_X5_copyFrom oR hρ (by omega)) rfl lk_X10_309 (by first | assumption | omega | exact ePp.ob (by assumption) | exact eNm.ob (by assumption) | exact eRg.ob (by assumption) | exact eTx.ob (by assumption) | exact ePa.ob (by assumption)) ⟨Nat.le_of_ble_eq_true rfl, Nat.le_of_ble_eq_true rfl⟩ rfl (Nat.le_of_ble_eq_true rfl) ⟨Nat.le_of_ble_eq_true rfl, Nat.le_of_ble_eq_true rfl⟩ (fun g_17 hg_17 => ?_)
  obtain ⟨w_17, fr_17⟩ := hg_17
  first | replace o0 := eArr.fr o0 (fr_17 _ (by omega)) | replace o0 := Eq.trans (fr_17 _ (by omega)) o0 | replace o0 := eBo.fr o0 (fr_17 _ (by omega)) | replace o0 := z_17 o0 | replace o0 := z_17 | replace o0 := ePp.fr1 o0 (fun a _ _ => fr_17 a (by omega)) | replace o0 := eNm.fr1 o0 (fun a _ _ => fr_17 a (by omega)) | replace o0 := eRg.fr o0 (fun a _ _ => fr_17 a (by omega)) | replace o0 := eTx.fr o0 (fun a _ _ => fr_17 a (by omega)) | replace o0 := ePa.fr o0 (fun a _ _ => fr_17 a (by omega)) | replace o0 := eRf.fr o0 (fr_17 _ (by omega)) | replace o0 := eSl.fr o0 (fun a _ _ => fr_17 a (by omega)) | replace o0 := eSe.fr o0 (fun a _ _ => fr_17 a (by omega))
  first | replace oT := eArr.fr oT (fr_17 _ (by omega)) | replace oT := Eq.trans (fr_17 _ (by omega)) oT | replace oT := eBo.fr oT (fr_17 _ (by omega)) | replace oT := z_17 oT | replace oT := z_17 | replace oT := ePp.fr1 oT (fun a _ _ => fr_17 a (by omega)) | replace oT := eNm.fr1 oT (fun a _ _ => fr_17 a (by omega)) | replace oT := eRg.fr oT (fun a _ _ => fr_17 a (by omega)) | replace oT := eTx.fr oT (fun a _ _ => fr_17 a (by omega)) | replace oT := ePa.fr oT (fun a _ _ => fr_17 a (by omega)) | replace oT := eRf.fr oT (fr_17 _ (by omega)) | replace oT := eSl.fr oT (fun a _ _ => fr_17 a (by omega)) | replace oT := eSe.fr oT (fun a _ _ => fr_17 a (by omega))
  first | replace oR := eArr.fr oR (fr_17 _ (by omega)) | replace oR := Eq.trans (fr_17 _ (by omega)) oR | replace oR := eBo.fr oR (fr_17 _ (by omega)) | replace oR := z_17 oR | replace oR := z_17 | replace oR := ePp.fr1 oR (fun a _ _ => fr_17 a (by omega)) | replace oR := eNm.fr1 oR (fun a _ _ => fr_17 a (by omega)) | replace oR := eRg.fr oR (fun a _ _ => fr_17 a (by omega)) | replace oR := eTx.fr oR (fun a _ _ => fr_17 a (by omega)) | replace oR := ePa.fr oR (fun a _ _ => fr_17 a (by omega)) | replace oR := eRf.fr oR (fr_17 _ (by omega)) | replace oR := eSl.fr oR (fun a _ _ => fr_17 a (by omega)) | replace oR := eSe.fr oR (fun a _ _ => fr_17 a (by omega))
  first | replace oR2 := eArr.fr oR2 (fr_17 _ (by omega)) | replace oR2 := Eq.trans (fr_17 _ (by omega)) oR2 | replace oR2 := eBo.fr oR2 (fr_17 _ (by omega)) | replace oR2 := z_17 oR2 | replace oR2 := z_17 | replace oR2 := ePp.fr1 oR2 (fun a _ _ => fr_17 a (by omega)) | replace oR2 := eNm.fr1 oR2 (fun a _ _ => fr_17 a (by omega)) | replace oR2 := eRg.fr oR2 (fun a _ _ => fr_17 a (by omega)) | replace oR2 := eTx.fr oR2 (fun a _ _ => fr_17 a (by omega)) | replace oR2 := ePa.fr oR2 (fun a _ _ => fr_17 a (by omega)) | replace oR2 := eRf.fr oR2 (fr_17 _ (by omega)) | replace oR2 := eSl.fr oR2 (fun a _ _ => fr_17 a (by omega)) | replace oR2 := eSe.fr oR2 (fun a _ _ => fr_17 a (by omega))
  first | replace oP := eArr.fr oP (fr_17 _ (by omega)) | replace oP := Eq.trans (fr_17 _ (by omega)) oP | replace oP := eBo.fr oP (fr_17 _ (by omega)) | replace oP := z_17 oP | replace oP := z_17 | replace oP := ePp.fr1 oP (fun a _ _ => fr_17 a (by omega)) | replace oP := eNm.fr1 oP (fun a _ _ => fr_17 a (by omega)) | replace oP := eRg.fr oP (fun a _ _ => fr_17 a (by omega)) | replace oP := eTx.fr oP (fun a _ _ => fr_17 a (by omega)) | replace oP := ePa.fr oP (fun a _ _ => fr_17 a (by omega)) | replace oP := eRf.fr oP (fr_17 _ (by omega)) | replace oP := eSl.fr oP (fun a _ _ => fr_17 a (by omega)) | replace oP := eSe.fr oP (fun a _ _ => fr_17 a (by omega))
  first | replace q0 := eArr.fr q0 (fr_17 _ (by omega)) | replace q0 := Eq.trans (fr_17 _ (by omega)) q0 | replace q0 := eBo.fr q0 (fr_17 _ (by omega)) | replace q0 := z_17 q0 | replace q0 := z_17 | replace q0 := ePp.fr1 q0 (fun a _ _ => fr_17 a (by omega)) | replace q0 := eNm.fr1 q0 (fun a _ _ => fr_17 a (by omega)) | replace q0 := eRg.fr q0 (fun a _ _ => fr_17 a (by omega)) | replace q0 := eTx.fr q0 (fun a _ _ => fr_17 a (by omega)) | replace q0 := ePa.fr q0 (fun a _ _ => fr_17 a (by omega)) | replace q0 := eRf.fr q0 (fr_17 _ (by omega)) | replace q0 := eSl.fr q0 (fun a _ _ => fr_17 a (by omega)) | replace q0 := eSe.fr q0 (fun a _ _ => fr_17 a (by omega))
  first | replace q1 := eArr.fr q1 (fr_17 _ (by omega)) | replace q1 := Eq.trans (fr_17 _ (by omega)) q1 | replace q1 := eBo.fr q1 (fr_17 _ (by omega)) | replace q1 := z_17 q1 | replace q1 := z_17 | replace q1 := ePp.fr1 q1 (fun a _ _ => fr_17 a (by omega)) | replace q1 := eNm.fr1 q1 (fun a _ _ => fr_17 a (by omega)) | replace q1 := eRg.fr q1 (fun a _ _ => fr_17 a (by omega)) | replace q1 := eTx.fr q1 (fun a _ _ => fr_17 a (by omega)) | replace q1 := ePa.fr q1 (fun a _ _ => fr_17 a (by omega)) | replace q1 := eRf.fr q1 (fr_17 _ (by omega)) | replace q1 := eSl.fr q1 (fun a _ _ => fr_17 a (by omega)) | replace q1 := eSe.fr q1 (fun a _ _ => fr_17 a (by omega))
  first | replace q2 := eArr.fr q2 (fr_17 _ (by omega)) | replace q2 := Eq.trans (fr_17 _ (by omega)) q2 | replace q2 := eBo.fr q2 (fr_17 _ (by omega)) | replace q2 := z_17 q2 | replace q2 := z_17 | replace q2 := ePp.fr1 q2 (fun a _ _ => fr_17 a (by omega)) | replace q2 := eNm.fr1 q2 (fun a _ _ => fr_17 a (by omega)) | replace q2 := eRg.fr q2 (fun a _ _ => fr_17 a (by omega)) | replace q2 := eTx.fr q2 (fun a _ _ => fr_17 a (by omega)) | replace q2 := ePa.fr q2 (fun a _ _ => fr_17 a (by omega)) | replace q2 := eRf.fr q2 (fr_17 _ (by omega)) | replace q2 := eSl.fr q2 (fun a _ _ => fr_17 a (by omega)) | replace q2 := eSe.fr q2 (fun a _ _ => fr_17 a (by omega))
  replace hρ := w_17
  first | replace oW := eArr.fr oW (fr_17 _ (by omega)) | replace oW := Eq.trans (fr_17 _ (by omega)) oW | replace oW := eBo.fr oW (fr_17 _ (by omega)) | replace oW := z_17 oW | replace oW := z_17 | replace oW := ePp.fr1 oW (fun a _ _ => fr_17 a (by omega)) | replace oW := eNm.fr1 oW (fun a _ _ => fr_17 a (by omega)) | replace oW := eRg.fr oW (fun a _ _ => fr_17 a (by omega)) | replace oW := eTx.fr oW (fun a _ _ => fr_17 a (by omega)) | replace oW := ePa.fr oW (fun a _ _ => fr_17 a (by omega)) | replace oW := eRf.fr oW (fr_17 _ (by omega)) | replace oW := eSl.fr oW (fun a _ _ => fr_17 a (by omega)) | replace oW := eSe.fr oW (fun a _ _ => fr_17 a (by omega))
  first | replace FR := eFr.trans FR (eFr.one fr_17 (by omega) (by omega)) | replace FR := eFr.trans FR (eFr.wide fr_17 (by omega) (by omega))
  refine ev_aload_n dX10_save_20 rfl rfl ?_
  refine ev_getfield dX10_save_21 fl_X10_36 (by first | assumption | omega | exact ePp.ob (by assumption) | exact eNm.ob (by assumption) | exact eRg.ob (by assumption) | exact eTx.ob (by assumption) | exact ePa.ob (by assumption)) rfl ?_
  refine ev_getfield dX10_save_24 fl_X10_342 (by first | assumption | omega | exact ePp.ob (by assumption) | exact eNm.ob (by assumption) | exact eRg.ob (by assumption) | exact eTx.ob (by assumption) | exact ePa.ob (by assumption)) rfl ?_
  refine ev_iload_n dX10_save_27 rfl rfl ?_
  refine ev_iconst (v := nI 1) dX10_save_28 rfl ?_
  refine ev_bastoreA dX10_save_29 (by first | assumption | omega | exact ePp.ob (by assumption) | exact eNm.ob (by assumption) | exact eRg.ob (by assumption) | exact eTx.ob (by assumption) | exact ePa.ob (by assumption)) (by first | assumption | omega | exact ePp.ob (by assumption) | exact eNm.ob (by assumption) | exact eRg.ob (by assumption) | exact eTx.ob (by assumption) | exact ePa.ob (by assumption)) (by decide) (fun g_29 fr_29 w_29 z_29 => ?_)
  first | replace o0 := eArr.fr o0 (fr_29 _ (by omega)) | replace o0 := Eq.trans (fr_29 _ (by omega)) o0 | replace o0 := eBo.fr o0 (fr_29 _ (by omega)) | replace o0 := z_29 o0 | replace o0 := z_29 | replace o0 := ePp.fr1 o0 (fun a _ _ => fr_29 a (by omega)) | replace o0 := eNm.fr1 o0 (fun a _ _ => fr_29 a (by omega)) | replace o0 := eRg.fr o0 (fun a _ _ => fr_29 a (by omega)) | replace o0 := eTx.fr o0 (fun a _ _ => fr_29 a (by omega)) | replace o0 := ePa.fr o0 (fun a _ _ => fr_29 a (by omega)) | replace o0 := eRf.fr o0 (fr_29 _ (by omega)) | replace o0 := eSl.fr o0 (fun a _ _ => fr_29 a (by omega)) | replace o0 := eSe.fr o0 (fun a _ _ => fr_29 a (by omega))
  first | replace oT := eArr.fr oT (fr_29 _ (by omega)) | replace oT := Eq.trans (fr_29 _ (by omega)) oT | replace oT := eBo.fr oT (fr_29 _ (by omega)) | replace oT := z_29 oT | replace oT := z_29 | replace oT := ePp.fr1 oT (fun a _ _ => fr_29 a (by omega)) | replace oT := eNm.fr1 oT (fun a _ _ => fr_29 a (by omega)) | replace oT := eRg.fr oT (fun a _ _ => fr_29 a (by omega)) | replace oT := eTx.fr oT (fun a _ _ => fr_29 a (by omega)) | replace oT := ePa.fr oT (fun a _ _ => fr_29 a (by omega)) | replace oT := eRf.fr oT (fr_29 _ (by omega)) | replace oT := eSl.fr oT (fun a _ _ => fr_29 a (by omega)) | replace oT := eSe.fr oT (fun a _ _ => fr_29 a (by omega))
  first | replace oR := eArr.fr oR (fr_29 _ (by omega)) | replace oR := Eq.trans (fr_29 _ (by omega)) oR | replace oR := eBo.fr oR (fr_29 _ (by omega)) | replace oR := z_29 oR | replace oR := z_29 | replace oR := ePp.fr1 oR (fun a _ _ => fr_29 a (by omega)) | replace oR := eNm.fr1 oR (fun a _ _ => fr_29 a (by omega)) | replace oR := eRg.fr oR (fun a _ _ => fr_29 a (by omega)) | replace oR := eTx.fr oR (fun a _ _ => fr_29 a (by omega)) | replace oR := ePa.fr oR (fun a _ _ => fr_29 a (by omega)) | replace oR := eRf.fr oR (fr_29 _ (by omega)) | replace oR := eSl.fr oR (fun a _ _ => fr_29 a (by omega)) | replace oR := eSe.fr oR (fun a _ _ => fr_29 a (by omega))
  first | replace oR2 := eArr.fr oR2 (fr_29 _ (by omega)) | replace oR2 := Eq.trans (fr_29 _ (by omega)) oR2 | replace oR2 := eBo.fr oR2 (fr_29 _ (by omega)) | replace oR2 := z_29 oR2 | replace oR2 := z_29 | replace oR2 := ePp.fr1 oR2 (fun a _ _ => fr_29 a (by omega)) | replace oR2 := eNm.fr1 oR2 (fun a _ _ => fr_29 a (by omega)) | replace oR2 := eRg.fr oR2 (fun a _ _ => fr_29 a (by omega)) | replace oR2 := eTx.fr oR2 (fun a _ _ => fr_29 a (by omega)) | replace oR2 := ePa.fr oR2 (fun a _ _ => fr_29 a (by omega)) | replace oR2 := eRf.fr oR2 (fr_29 _ (by omega)) | replace oR2 := eSl.fr oR2 (fun a _ _ => fr_29 a (by omega)) | replace oR2 := eSe.fr oR2 (fun a _ _ => fr_29 a (by omega))
  first | replace oP := eArr.fr oP (fr_29 _ (by omega)) | replace oP := Eq.trans (fr_29 _ (by omega)) oP | replace oP := eBo.fr oP (fr_29 _ (by omega)) | replace oP := z_29 oP | replace oP := z_29 | replace oP := ePp.fr1 oP (fun a _ _ => fr_29 a (by omega)) | replace oP := eNm.fr1 oP (fun a _ _ => fr_29 a (by omega)) | replace oP := eRg.fr oP (fun a _ _ => fr_29 a (by omega)) | replace oP := eTx.fr oP (fun a _ _ => fr_29 a (by omega)) | replace oP := ePa.fr oP (fun a _ _ => fr_29 a (by omega)) | replace oP := eRf.fr oP (fr_29 _ (by omega)) | replace oP := eSl.fr oP (fun a _ _ => fr_29 a (by omega)) | replace oP := eSe.fr oP (fun a _ _ => fr_29 a (by omega))
  first | replace q0 := eArr.fr q0 (fr_29 _ (by omega)) | replace q0 := Eq.trans (fr_29 _ (by omega)) q0 | replace q0 := eBo.fr q0 (fr_29 _ (by omega)) | replace q0 := z_29 q0 | replace q0 := z_29 | replace q0 := ePp.fr1 q0 (fun a _ _ => fr_29 a (by omega)) | replace q0 := eNm.fr1 q0 (fun a _ _ => fr_29 a (by omega)) | replace q0 := eRg.fr q0 (fun a _ _ => fr_29 a (by omega)) | replace q0 := eTx.fr q0 (fun a _ _ => fr_29 a (by omega)) | replace q0 := ePa.fr q0 (fun a _ _ => fr_29 a (by omega)) | replace q0 := eRf.fr q0 (fr_29 _ (by omega)) | replace q0 := eSl.fr q0 (fun a _ _ => fr_29 a (by omega)) | replace q0 := eSe.fr q0 (fun a _ _ => fr_29 a (by omega))
  first | replace q1 := eArr.fr q1 (fr_29 _ (by omega)) | replace q1 := Eq.trans (fr_29 _ (by omega)) q1 | replace q1 := eBo.fr q1 (fr_29 _ (by omega)) | replace q1 := z_29 q1 | replace q1 := z_29 | replace q1 := ePp.fr1 q1 (fun a _ _ => fr_29 a (by omega)) | replace q1 := eNm.fr1 q1 (fun a _ _ => fr_29 a (by omega)) | replace q1 := eRg.fr q1 (fun a _ _ => fr_29 a (by omega)) | replace q1 := eTx.fr q1 (fun a _ _ => fr_29 a (by omega)) | replace q1 := ePa.fr q1 (fun a _ _ => fr_29 a (by omega)) | replace q1 := eRf.fr q1 (fr_29 _ (by omega)) | replace q1 := eSl.fr q1 (fun a _ _ => fr_29 a (by omega)) | replace q1 := eSe.fr q1 (fun a _ _ => fr_29 a (by omega))
  replace q2 := w_29 _ (Or.inl (Nat.le_refl _))
  first | replace hρ := eArr.fr hρ (fr_29 _ (by omega)) | replace hρ := Eq.trans (fr_29 _ (by omega)) hρ | replace hρ := eBo.fr hρ (fr_29 _ (by omega)) | replace hρ := z_29 hρ | replace hρ := z_29 | replace hρ := ePp.fr1 hρ (fun a _ _ => fr_29 a (by omega)) | replace hρ := eNm.fr1 hρ (fun a _ _ => fr_29 a (by omega)) | replace hρ := eRg.fr hρ (fun a _ _ => fr_29 a (by omega)) | replace hρ := eTx.fr hρ (fun a _ _ => fr_29 a (by omega)) | replace hρ := ePa.fr hρ (fun a _ _ => fr_29 a (by omega)) | replace hρ := eRf.fr hρ (fr_29 _ (by omega)) | replace hρ := eSl.fr hρ (fun a _ _ => fr_29 a (by omega)) | replace hρ := eSe.fr hρ (fun a _ _ => fr_29 a (by omega))
  first | replace oW := eArr.fr oW (fr_29 _ (by omega)) | replace oW := Eq.trans (fr_29 _ (by omega)) oW | replace oW := eBo.fr oW (fr_29 _ (by omega)) | replace oW := z_29 oW | replace oW := z_29 | replace oW := ePp.fr1 oW (fun a _ _ => fr_29 a (by omega)) | replace oW := eNm.fr1 oW (fun a _ _ => fr_29 a (by omega)) | replace oW := eRg.fr oW (fun a _ _ => fr_29 a (by omega)) | replace oW := eTx.fr oW (fun a _ _ => fr_29 a (by omega)) | replace oW := ePa.fr oW (fun a _ _ => fr_29 a (by omega)) | replace oW := eRf.fr oW (fr_29 _ (by omega)) | replace oW := eSl.fr oW (fun a _ _ => fr_29 a (by omega)) | replace oW := eSe.fr oW (fun a _ _ => fr_29 a (by omega))
  first | replace FR := eFr.trans FR (eFr.one fr_29 (by omega) (by omega)) | replace FR := eFr.trans FR (eFr.wide fr_29 (by omega) (by omega))
  obtain ⟨r0, oPp, oN, oSt⟩ := id oR
  obtain ⟨n0, -⟩ := id oN
  refine ev_aload_n dX10_save_30 rfl rfl ?_
  refine ev_getfield dX10_save_31 fl_X10_19 (by first | assumption | omega | exact ePp.ob (by assumption) | exact eNm.ob (by assumption) | exact eRg.ob (by assumption) | exact eTx.ob (by assumption) | exact ePa.ob (by assumption)) rfl ?_
  refine ev_getfield dX10_save_34 fl_X10_100 (by first | assumption | omega | exact ePp.ob (by assumption) | exact eNm.ob (by assumption) | exact eRg.ob (by assumption) | exact eTx.ob (by assumption) | exact ePa.ob (by assumption)) rfl ?_
  refine ev_getfield dX10_save_37 fl_X10_104 (by first | assumption | omega | exact ePp.ob (by assumption) | exact eNm.ob (by assumption) | exact eRg.ob (by assumption) | exact eTx.ob (by assumption) | exact ePa.ob (by assumption)) rfl ?_
  exact ev_iret dX10_save_40 rfl rfl (by rfl) (by exact ⟨⟨o0, ⟨k0, u0, oT, hsm⟩, oR, ⟨ρ, oR2⟩, ⟨f0, oP⟩, ⟨q0, q1, q2.congr (fun j hj => rfl), fun i => by show (if i = s then 1 else us i) ≤ 1; split; exact Nat.le_refl 1; exact q3 i, fun i hi => by show eRg _ _ (if i = s then σ else τs i); by_cases e : i = s; rw [if_pos e, e]; exact hρ; rw [if_neg e]; exact ((hh i hi).fr (fun a h1 h2 => fr_17 a (by omega))).fr (fun a h1 h2 => fr_29 a (by omega))⟩, ⟨wt, oW⟩⟩, FR⟩) (fun _ e => Option.some.inj e) (Nat.le_of_ble_eq_true rfl) (Nat.le_of_ble_eq_true rfl)
set_option maxHeartbeats 4000000 in
set_option maxRecDepth 20000 in
theorem c_X10_save_1 {h : eH} {n b : Nat} {z : Int32} (hz : ¬ (0 ≤ z.toInt ∧ z.toInt < (2 : Nat))) : kX10_save [.ref b, .int z] h n (.inr "java/lang/IndexOutOfBoundsException", (· = h), none) 1 6 := by
  refine eM.of RX10 "save" [(0, .ref b), (1, .int z)] pn_X10 rfl rfl (Nat.le_of_ble_eq_true rfl) rfl ?_
  refine ev_iload_n dX10_save_0 rfl rfl ?_
  refine ev_callSx dX10_save_1 (c_X10_requireSlot_n hz) lk_X10_335 ⟨Nat.le_of_ble_eq_true rfl, Nat.le_of_ble_eq_true rfl⟩ rfl (Nat.le_of_ble_eq_true rfl) ⟨Nat.le_of_ble_eq_true rfl, Nat.le_of_ble_eq_true rfl⟩ rfl rfl (fun _ hg_1 => hg_1)
set_option maxHeartbeats 4000000 in
set_option maxRecDepth 20000 in
theorem c_X10_restore {h : eH} {n b ℓ c s : Nat} {σ : St} {x : Nat → Nat} {τ τs : Nat → St} {us : Nat → Nat} (hO : eNB h b σ x ℓ c τ us τs) (hs : s < 2) (hu : us s ≠ 0) : kX10_restore [.ref b, .int (nI s)] h n (.inl (some (.int (nI (τs s 0 1)))), (fun g => eNB g b (τs s) x ℓ 0 τ us τs ∧ eFr h g b (b + 317)), some n) 0 0 := by
  refine eM.of RX10 "restore" [(0, .ref b), (1, .int (nI s))] pn_X10 rfl rfl (Nat.le_of_ble_eq_true rfl) rfl ?_
  obtain ⟨o0, ⟨k0, u0, oT, hsm⟩, oR, ⟨ρ, oR2⟩, ⟨f0, oP⟩, oS, ⟨wt, oW⟩⟩ := id hO
  have FR : eFr h h b (b + 317) := eFr.rf
  obtain ⟨q0, q1, q2, q3, q4⟩ := id oS
  obtain ⟨F, hF, hF2⟩ := id q1
  have hρ := q4 s hs
  have hu1 := q3 s
  refine ev_iload_n dX10_restore_0 rfl rfl ?_
  refine ev_callSv dX10_restore_1 (c_X10_requireSlot hs) lk_X10_335 ⟨Nat.le_of_ble_eq_true rfl, Nat.le_of_ble_eq_true rfl⟩ rfl (Nat.le_of_ble_eq_true rfl) ⟨Nat.le_of_ble_eq_true rfl, Nat.le_of_ble_eq_true rfl⟩ (eRo ?_)
  refine ev_aload_n dX10_restore_4 rfl rfl ?_
  refine ev_getfield dX10_restore_5 fl_X10_36 (by first | assumption | omega | exact ePp.ob (by assumption) | exact eNm.ob (by assumption) | exact eRg.ob (by assumption) | exact eTx.ob (by assumption) | exact ePa.ob (by assumption)) rfl ?_
  refine ev_getfield dX10_restore_8 fl_X10_342 (by first | assumption | omega | exact ePp.ob (by assumption) | exact eNm.ob (by assumption) | exact eRg.ob (by assumption) | exact eTx.ob (by assumption) | exact ePa.ob (by assumption)) rfl ?_
  refine ev_iload_n dX10_restore_11 rfl rfl ?_
  refine ev_baloadA dX10_restore_12 (by first | assumption | omega | exact ePp.ob (by assumption) | exact eNm.ob (by assumption) | exact eRg.ob (by assumption) | exact eTx.ob (by assumption) | exact ePa.ob (by assumption)) (by first | assumption | omega | exact ePp.ob (by assumption) | exact eNm.ob (by assumption) | exact eRg.ob (by assumption) | exact eTx.ob (by assumption) | exact ePa.ob (by assumption)) ?_
  first | ((with_reducible show eV _ _ _ (Value.int (bI _) :: _) _ _ _ _); refine ev_if_neB (tgt := 27) dX10_restore_13 (by decide) (fun c_13 => ?_) (fun c_13 => ?_)) | ((with_reducible show eV _ _ _ (Value.int (nI _) :: _) _ _ _ _); refine ev_if_neN (tgt := 27) dX10_restore_13 (by decide) (by omega) (fun c_13 => ?_) (fun c_13 => ?_)) | (refine ev_if_neZ (tgt := 27) dX10_restore_13 (by decide) (fun c_13 => ?_) (fun c_13 => ?_))
  · refine ev_aload_n dX10_restore_27 rfl rfl ?_
    refine ev_getfield dX10_restore_28 fl_X10_19 (by first | assumption | omega | exact ePp.ob (by assumption) | exact eNm.ob (by assumption) | exact eRg.ob (by assumption) | exact eTx.ob (by assumption) | exact ePa.ob (by assumption)) rfl ?_
    refine ev_aload_n dX10_restore_31 rfl rfl ?_
    refine ev_getfield dX10_restore_32 fl_X10_36 (by first | assumption | omega | exact ePp.ob (by assumption) | exact eNm.ob (by assumption) | exact eRg.ob (by assumption) | exact eTx.ob (by assumption) | exact ePa.ob (by assumption)) rfl ?_
    refine ev_getfield dX10_restore_35 fl_X10_338 (by first | assumption | omega | exact ePp.ob (by assumption) | exact eNm.ob (by assumption) | exact eRg.ob (by assumption) | exact eTx.ob (by assumption) | exact ePa.ob (by assumption)) rfl ?_
    refine ev_iload_n dX10_restore_38 rfl rfl ?_
    refine ev_aaloadN dX10_restore_39 hF hs (by decide) ?_
    rw [hF2 _ hs]
    show eV _ _ _ (Value.ref (b + 278 + 3 + 17 * s) :: _) _ _ _ _
    refine ev_callVv dX10_restore_40 (c_X5_copyFrom hρ oR (by omega)) rfl lk_X10_309 (by first | assumption | omega | exact ePp.ob (by assumption) | exact eNm.ob (by assumption) | exact eRg.ob (by assumption) | exact eTx.ob (by assumption) | exact ePa.ob (by assumption)) ⟨Nat.le_of_ble_eq_true rfl, Nat.le_of_ble_eq_true rfl⟩ rfl (Nat.le_of_ble_eq_true rfl) ⟨Nat.le_of_ble_eq_true rfl, Nat.le_of_ble_eq_true rfl⟩ (fun g_40 hg_40 => ?_)
    obtain ⟨w_40, fr_40⟩ := hg_40
    first | replace o0 := eArr.fr o0 (fr_40 _ (by omega)) | replace o0 := Eq.trans (fr_40 _ (by omega)) o0 | replace o0 := eBo.fr o0 (fr_40 _ (by omega)) | replace o0 := z_40 o0 | replace o0 := z_40 | replace o0 := ePp.fr1 o0 (fun a _ _ => fr_40 a (by omega)) | replace o0 := eNm.fr1 o0 (fun a _ _ => fr_40 a (by omega)) | replace o0 := eRg.fr o0 (fun a _ _ => fr_40 a (by omega)) | replace o0 := eTx.fr o0 (fun a _ _ => fr_40 a (by omega)) | replace o0 := ePa.fr o0 (fun a _ _ => fr_40 a (by omega)) | replace o0 := eRf.fr o0 (fr_40 _ (by omega)) | replace o0 := eSl.fr o0 (fun a _ _ => fr_40 a (by omega)) | replace o0 := eSe.fr o0 (fun a _ _ => fr_40 a (by omega))
    first | replace oT := eArr.fr oT (fr_40 _ (by omega)) | replace oT := Eq.trans (fr_40 _ (by omega)) oT | replace oT := eBo.fr oT (fr_40 _ (by omega)) | replace oT := z_40 oT | replace oT := z_40 | replace oT := ePp.fr1 oT (fun a _ _ => fr_40 a (by omega)) | replace oT := eNm.fr1 oT (fun a _ _ => fr_40 a (by omega)) | replace oT := eRg.fr oT (fun a _ _ => fr_40 a (by omega)) | replace oT := eTx.fr oT (fun a _ _ => fr_40 a (by omega)) | replace oT := ePa.fr oT (fun a _ _ => fr_40 a (by omega)) | replace oT := eRf.fr oT (fr_40 _ (by omega)) | replace oT := eSl.fr oT (fun a _ _ => fr_40 a (by omega)) | replace oT := eSe.fr oT (fun a _ _ => fr_40 a (by omega))
    replace oR := w_40
    first | replace oR2 := eArr.fr oR2 (fr_40 _ (by omega)) | replace oR2 := Eq.trans (fr_40 _ (by omega)) oR2 | replace oR2 := eBo.fr oR2 (fr_40 _ (by omega)) | replace oR2 := z_40 oR2 | replace oR2 := z_40 | replace oR2 := ePp.fr1 oR2 (fun a _ _ => fr_40 a (by omega)) | replace oR2 := eNm.fr1 oR2 (fun a _ _ => fr_40 a (by omega)) | replace oR2 := eRg.fr oR2 (fun a _ _ => fr_40 a (by omega)) | replace oR2 := eTx.fr oR2 (fun a _ _ => fr_40 a (by omega)) | replace oR2 := ePa.fr oR2 (fun a _ _ => fr_40 a (by omega)) | replace oR2 := eRf.fr oR2 (fr_40 _ (by omega)) | replace oR2 := eSl.fr oR2 (fun a _ _ => fr_40 a (by omega)) | replace oR2 := eSe.fr oR2 (fun a _ _ => fr_40 a (by omega))
    first | replace oP := eArr.fr oP (fr_40 _ (by omega)) | replace oP := Eq.trans (fr_40 _ (by omega)) oP | replace oP := eBo.fr oP (fr_40 _ (by omega)) | replace oP := z_40 oP | replace oP := z_40 | replace oP := ePp.fr1 oP (fun a _ _ => fr_40 a (by omega)) | replace oP := eNm.fr1 oP (fun a _ _ => fr_40 a (by omega)) | replace oP := eRg.fr oP (fun a _ _ => fr_40 a (by omega)) | replace oP := eTx.fr oP (fun a _ _ => fr_40 a (by omega)) | replace oP := ePa.fr oP (fun a _ _ => fr_40 a (by omega)) | replace oP := eRf.fr oP (fr_40 _ (by omega)) | replace oP := eSl.fr oP (fun a _ _ => fr_40 a (by omega)) | replace oP := eSe.fr oP (fun a _ _ => fr_40 a (by omega))
    first | replace oS := eArr.fr oS (fr_40 _ (by omega)) | replace oS := Eq.trans (fr_40 _ (by omega)) oS | replace oS := eBo.fr oS (fr_40 _ (by omega)) | replace oS := z_40 oS | replace oS := z_40 | replace oS := ePp.fr1 oS (fun a _ _ => fr_40 a (by omega)) | replace oS := eNm.fr1 oS (fun a _ _ => fr_40 a (by omega)) | replace oS := eRg.fr oS (fun a _ _ => fr_40 a (by omega)) | replace oS := eTx.fr oS (fun a _ _ => fr_40 a (by omega)) | replace oS := ePa.fr oS (fun a _ _ => fr_40 a (by omega)) | replace oS := eRf.fr oS (fr_40 _ (by omega)) | replace oS := eSl.fr oS (fun a _ _ => fr_40 a (by omega)) | replace oS := eSe.fr oS (fun a _ _ => fr_40 a (by omega))
    first | replace oW := eArr.fr oW (fr_40 _ (by omega)) | replace oW := Eq.trans (fr_40 _ (by omega)) oW | replace oW := eBo.fr oW (fr_40 _ (by omega)) | replace oW := z_40 oW | replace oW := z_40 | replace oW := ePp.fr1 oW (fun a _ _ => fr_40 a (by omega)) | replace oW := eNm.fr1 oW (fun a _ _ => fr_40 a (by omega)) | replace oW := eRg.fr oW (fun a _ _ => fr_40 a (by omega)) | replace oW := eTx.fr oW (fun a _ _ => fr_40 a (by omega)) | replace oW := ePa.fr oW (fun a _ _ => fr_40 a (by omega)) | replace oW := eRf.fr oW (fr_40 _ (by omega)) | replace oW := eSl.fr oW (fun a _ _ => fr_40 a (by omega)) | replace oW := eSe.fr oW (fun a _ _ => fr_40 a (by omega))
    first | replace FR := eFr.trans FR (eFr.one fr_40 (by omega) (by omega)) | replace FR := eFr.trans FR (eFr.wide fr_40 (by omega) (by omega))
    refine ev_aload_n dX10_restore_43 rfl rfl ?_
    refine ev_getfield dX10_restore_44 fl_X10_29 (by first | assumption | omega | exact ePp.ob (by assumption) | exact eNm.ob (by assumption) | exact eRg.ob (by assumption) | exact eTx.ob (by assumption) | exact ePa.ob (by assumption)) rfl ?_
    refine ev_callVv dX10_restore_47 (c_X3_forgetAll oP) rfl lk_X10_76 (by first | assumption | omega | exact ePp.ob (by assumption) | exact eNm.ob (by assumption) | exact eRg.ob (by assumption) | exact eTx.ob (by assumption) | exact ePa.ob (by assumption)) ⟨Nat.le_of_ble_eq_true rfl, Nat.le_of_ble_eq_true rfl⟩ rfl (Nat.le_of_ble_eq_true rfl) ⟨Nat.le_of_ble_eq_true rfl, Nat.le_of_ble_eq_true rfl⟩ (fun g_47 hg_47 => ?_)
    obtain ⟨w_47, fr_47⟩ := hg_47
    first | replace o0 := eArr.fr o0 (fr_47 _ (by omega)) | replace o0 := Eq.trans (fr_47 _ (by omega)) o0 | replace o0 := eBo.fr o0 (fr_47 _ (by omega)) | replace o0 := z_47 o0 | replace o0 := z_47 | replace o0 := ePp.fr1 o0 (fun a _ _ => fr_47 a (by omega)) | replace o0 := eNm.fr1 o0 (fun a _ _ => fr_47 a (by omega)) | replace o0 := eRg.fr o0 (fun a _ _ => fr_47 a (by omega)) | replace o0 := eTx.fr o0 (fun a _ _ => fr_47 a (by omega)) | replace o0 := ePa.fr o0 (fun a _ _ => fr_47 a (by omega)) | replace o0 := eRf.fr o0 (fr_47 _ (by omega)) | replace o0 := eSl.fr o0 (fun a _ _ => fr_47 a (by omega)) | replace o0 := eSe.fr o0 (fun a _ _ => fr_47 a (by omega))
    first | replace oT := eArr.fr oT (fr_47 _ (by omega)) | replace oT := Eq.trans (fr_47 _ (by omega)) oT | replace oT := eBo.fr oT (fr_47 _ (by omega)) | replace oT := z_47 oT | replace oT := z_47 | replace oT := ePp.fr1 oT (fun a _ _ => fr_47 a (by omega)) | replace oT := eNm.fr1 oT (fun a _ _ => fr_47 a (by omega)) | replace oT := eRg.fr oT (fun a _ _ => fr_47 a (by omega)) | replace oT := eTx.fr oT (fun a _ _ => fr_47 a (by omega)) | replace oT := ePa.fr oT (fun a _ _ => fr_47 a (by omega)) | replace oT := eRf.fr oT (fr_47 _ (by omega)) | replace oT := eSl.fr oT (fun a _ _ => fr_47 a (by omega)) | replace oT := eSe.fr oT (fun a _ _ => fr_47 a (by omega))
    first | replace oR := eArr.fr oR (fr_47 _ (by omega)) | replace oR := Eq.trans (fr_47 _ (by omega)) oR | replace oR := eBo.fr oR (fr_47 _ (by omega)) | replace oR := z_47 oR | replace oR := z_47 | replace oR := ePp.fr1 oR (fun a _ _ => fr_47 a (by omega)) | replace oR := eNm.fr1 oR (fun a _ _ => fr_47 a (by omega)) | replace oR := eRg.fr oR (fun a _ _ => fr_47 a (by omega)) | replace oR := eTx.fr oR (fun a _ _ => fr_47 a (by omega)) | replace oR := ePa.fr oR (fun a _ _ => fr_47 a (by omega)) | replace oR := eRf.fr oR (fr_47 _ (by omega)) | replace oR := eSl.fr oR (fun a _ _ => fr_47 a (by omega)) | replace oR := eSe.fr oR (fun a _ _ => fr_47 a (by omega))
    first | replace oR2 := eArr.fr oR2 (fr_47 _ (by omega)) | replace oR2 := Eq.trans (fr_47 _ (by omega)) oR2 | replace oR2 := eBo.fr oR2 (fr_47 _ (by omega)) | replace oR2 := z_47 oR2 | replace oR2 := z_47 | replace oR2 := ePp.fr1 oR2 (fun a _ _ => fr_47 a (by omega)) | replace oR2 := eNm.fr1 oR2 (fun a _ _ => fr_47 a (by omega)) | replace oR2 := eRg.fr oR2 (fun a _ _ => fr_47 a (by omega)) | replace oR2 := eTx.fr oR2 (fun a _ _ => fr_47 a (by omega)) | replace oR2 := ePa.fr oR2 (fun a _ _ => fr_47 a (by omega)) | replace oR2 := eRf.fr oR2 (fr_47 _ (by omega)) | replace oR2 := eSl.fr oR2 (fun a _ _ => fr_47 a (by omega)) | replace oR2 := eSe.fr oR2 (fun a _ _ => fr_47 a (by omega))
    replace oP := w_47
    first | replace oS := eArr.fr oS (fr_47 _ (by omega)) | replace oS := Eq.trans (fr_47 _ (by omega)) oS | replace oS := eBo.fr oS (fr_47 _ (by omega)) | replace oS := z_47 oS | replace oS := z_47 | replace oS := ePp.fr1 oS (fun a _ _ => fr_47 a (by omega)) | replace oS := eNm.fr1 oS (fun a _ _ => fr_47 a (by omega)) | replace oS := eRg.fr oS (fun a _ _ => fr_47 a (by omega)) | replace oS := eTx.fr oS (fun a _ _ => fr_47 a (by omega)) | replace oS := ePa.fr oS (fun a _ _ => fr_47 a (by omega)) | replace oS := eRf.fr oS (fr_47 _ (by omega)) | replace oS := eSl.fr oS (fun a _ _ => fr_47 a (by omega)) | replace oS := eSe.fr oS (fun a _ _ => fr_47 a (by omega))
    first | replace oW := eArr.fr oW (fr_47 _ (by omega)) | replace oW := Eq.trans (fr_47 _ (by omega)) oW | replace oW := eBo.fr oW (fr_47 _ (by omega)) | replace oW := z_47 oW | replace oW := z_47 | replace oW := ePp.fr1 oW (fun a _ _ => fr_47 a (by omega)) | replace oW := eNm.fr1 oW (fun a _ _ => fr_47 a (by omega)) | replace oW := eRg.fr oW (fun a _ _ => fr_47 a (by omega)) | replace oW := eTx.fr oW (fun a _ _ => fr_47 a (by omega)) | replace oW := ePa.fr oW (fun a _ _ => fr_47 a (by omega)) | replace oW := eRf.fr oW (fr_47 _ (by omega)) | replace oW := eSl.fr oW (fun a _ _ => fr_47 a (by omega)) | replace oW := eSe.fr oW (fun a _ _ => fr_47 a (by omega))
    first | replace FR := eFr.trans FR (eFr.one fr_47 (by omega) (by omega)) | replace FR := eFr.trans FR (eFr.wide fr_47 (by omega) (by omega))
    obtain ⟨r0, oPp, oN, oSt⟩ := id oR
    obtain ⟨n0, -⟩ := id oN
    refine ev_aload_n dX10_restore_50 rfl rfl ?_
    refine ev_getfield dX10_restore_51 fl_X10_19 (by first | assumption | omega | exact ePp.ob (by assumption) | exact eNm.ob (by assumption) | exact eRg.ob (by assumption) | exact eTx.ob (by assumption) | exact ePa.ob (by assumption)) rfl ?_
    refine ev_getfield dX10_restore_54 fl_X10_100 (by first | assumption | omega | exact ePp.ob (by assumption) | exact eNm.ob (by assumption) | exact eRg.ob (by assumption) | exact eTx.ob (by assumption) | exact ePa.ob (by assumption)) rfl ?_
    refine ev_getfield dX10_restore_57 fl_X10_104 (by first | assumption | omega | exact ePp.ob (by assumption) | exact eNm.ob (by assumption) | exact eRg.ob (by assumption) | exact eTx.ob (by assumption) | exact ePa.ob (by assumption)) rfl ?_
    exact ev_iret dX10_restore_60 rfl rfl (by rfl) (by exact ⟨⟨o0, ⟨k0, u0, oT, hsm⟩, oR, ⟨ρ, oR2⟩, ⟨f0, oP⟩, oS, ⟨wt, oW⟩⟩, FR⟩) (fun _ e => Option.some.inj e) (Nat.le_of_ble_eq_true rfl) (Nat.le_of_ble_eq_true rfl)
  · exact absurd c_13 hu
set_option maxHeartbeats 4000000 in
set_option maxRecDepth 20000 in
theorem c_X10_restore_1 {h : eH} {n b : Nat} {z : Int32} (hz : ¬ (0 ≤ z.toInt ∧ z.toInt < (2 : Nat))) : kX10_restore [.ref b, .int z] h n (.inr "java/lang/IndexOutOfBoundsException", (· = h), none) 1 6 := by
  refine eM.of RX10 "restore" [(0, .ref b), (1, .int z)] pn_X10 rfl rfl (Nat.le_of_ble_eq_true rfl) rfl ?_
  refine ev_iload_n dX10_restore_0 rfl rfl ?_
  refine ev_callSx dX10_restore_1 (c_X10_requireSlot_n hz) lk_X10_335 ⟨Nat.le_of_ble_eq_true rfl, Nat.le_of_ble_eq_true rfl⟩ rfl (Nat.le_of_ble_eq_true rfl) ⟨Nat.le_of_ble_eq_true rfl, Nat.le_of_ble_eq_true rfl⟩ rfl rfl (fun _ hg_1 => hg_1)
set_option maxHeartbeats 4000000 in
set_option maxRecDepth 20000 in
theorem c_X10_restore_2 {h : eH} {n b ℓ c s : Nat} {σ : St} {x : Nat → Nat} {τ τs : Nat → St} {us : Nat → Nat} (hO : eNB h b σ x ℓ c τ us τs) (hs : s < 2) (hu : us s = 0) : kX10_restore [.ref b, .int (nI s)] h n (.inr "java/lang/IllegalStateException", (· = h), none) 1 6 := by
  refine eM.of RX10 "restore" [(0, .ref b), (1, .int (nI s))] pn_X10 rfl rfl (Nat.le_of_ble_eq_true rfl) rfl ?_
  obtain ⟨o0, ⟨k0, u0, oT, hsm⟩, oR, ⟨ρ, oR2⟩, ⟨f0, oP⟩, oS, ⟨wt, oW⟩⟩ := id hO
  obtain ⟨q0, q1, q2, q3, q4⟩ := id oS
  refine ev_iload_n dX10_restore_0 rfl rfl ?_
  refine ev_callSv dX10_restore_1 (c_X10_requireSlot hs) lk_X10_335 ⟨Nat.le_of_ble_eq_true rfl, Nat.le_of_ble_eq_true rfl⟩ rfl (Nat.le_of_ble_eq_true rfl) ⟨Nat.le_of_ble_eq_true rfl, Nat.le_of_ble_eq_true rfl⟩ (eRo ?_)
  refine ev_aload_n dX10_restore_4 rfl rfl ?_
  refine ev_getfield dX10_restore_5 fl_X10_36 (by first | assumption | omega | exact ePp.ob (by assumption) | exact eNm.ob (by assumption) | exact eRg.ob (by assumption) | exact eTx.ob (by assumption) | exact ePa.ob (by assumption)) rfl ?_
  refine ev_getfield dX10_restore_8 fl_X10_342 (by first | assumption | omega | exact ePp.ob (by assumption) | exact eNm.ob (by assumption) | exact eRg.ob (by assumption) | exact eTx.ob (by assumption) | exact ePa.ob (by assumption)) rfl ?_
  refine ev_iload_n dX10_restore_11 rfl rfl ?_
  refine ev_baloadA dX10_restore_12 (by first | assumption | omega | exact ePp.ob (by assumption) | exact eNm.ob (by assumption) | exact eRg.ob (by assumption) | exact eTx.ob (by assumption) | exact ePa.ob (by assumption)) (by first | assumption | omega | exact ePp.ob (by assumption) | exact eNm.ob (by assumption) | exact eRg.ob (by assumption) | exact eTx.ob (by assumption) | exact ePa.ob (by assumption)) ?_
  first | ((with_reducible show eV _ _ _ (Value.int (bI _) :: _) _ _ _ _); refine ev_if_neB (tgt := 27) dX10_restore_13 (by decide) (fun c_13 => ?_) (fun c_13 => ?_)) | ((with_reducible show eV _ _ _ (Value.int (nI _) :: _) _ _ _ _); refine ev_if_neN (tgt := 27) dX10_restore_13 (by decide) (by omega) (fun c_13 => ?_) (fun c_13 => ?_)) | (refine ev_if_neZ (tgt := 27) dX10_restore_13 (by decide) (fun c_13 => ?_) (fun c_13 => ?_))
  · exact absurd hu c_13
  · exact ev_throwSW (text := "nothing is saved in this slot") dX10_restore_16 dX10_restore_19 dX10_restore_20 dX10_restore_23 dX10_restore_26 (by decide +kernel) (by decide +kernel) wk_X10_58 wi_java_lang_IllegalStateException (by decide +kernel) th_X10_62 tg_X10_58_62 rfl (Nat.le_of_ble_eq_true rfl) (Nat.le_of_ble_eq_true rfl) (Nat.le_of_ble_eq_true rfl) (Nat.le_of_ble_eq_true rfl) rfl (by rfl)

