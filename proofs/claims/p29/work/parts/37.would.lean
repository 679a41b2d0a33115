def sBetter (σ : St) (p o : Nat) : Bool := decide (sStuckG σ o * sGiven σ p < sStuckG σ p * sGiven σ o ∨ (sStuckG σ p * sGiven σ o = sStuckG σ o * sGiven σ p ∧ sGiven σ o < sGiven σ p))
def sBGTo (σ : St) : Nat → Option Nat
  | 0 => none
  | k + 1 => if sGiven σ k = 0 then sBGTo σ k else match sBGTo σ k with
    | none => some k
    | some e => if sBetter σ k e = true then some k else some e
theorem sBGTo_0 {σ : St} {k : Nat} {o : Option Nat} (ho : o = sBGTo σ k) (h : sGiven σ k = 0) : o = sBGTo σ (k + 1) := by rw [sBGTo, if_pos h]; exact ho
theorem sBGTo_n {σ : St} {k : Nat} (ho : none = sBGTo σ k) (h : sGiven σ k ≠ 0) : some k = sBGTo σ (k + 1) := by rw [sBGTo, if_neg h, ← ho]
theorem sBGTo_y {σ : St} {k e : Nat} (ho : some e = sBGTo σ k) (h : sGiven σ k ≠ 0) (h2 : sBetter σ k e = true) : some k = sBGTo σ (k + 1) := by rw [sBGTo, if_neg h, ← ho]; exact (if_pos h2).symm
theorem sBGTo_x {σ : St} {k e : Nat} (ho : some e = sBGTo σ k) (h : sGiven σ k ≠ 0) (h2 : sBetter σ k e = false) : some e = sBGTo σ (k + 1) := by rw [sBGTo, if_neg h, ← ho]; exact (if_neg (by rw [h2]; decide)).symm
theorem sBGTo_lt {σ : St} : ∀ {k e : Nat}, sBGTo σ k = some e → e < k
  | 0, e, h => by cases h
  | k + 1, e, h => by
    rw [sBGTo] at h
    split at h
    · exact Nat.lt_succ_of_lt (sBGTo_lt h)
    · split at h
      · cases h; exact Nat.lt_succ_self k
      · rename_i q
        split at h
        · cases h; exact Nat.lt_succ_self k
        · cases h; exact Nat.lt_succ_of_lt (sBGTo_lt q)
def sBG (σ : St) : Option Nat := sBGTo σ (σ 0 0)
def sMixTo (σ : St) : Nat → Option Nat
  | 0 => none
  | k + 1 => match sMixTo σ k with
    | none => if 0 < σ 4 k then some k else none
    | some e => if σ 4 e < σ 4 k then some k else some e
theorem sMixTo_n0 {σ : St} {k : Nat} (ho : none = sMixTo σ k) (h : ¬ 0 < σ 4 k) : none = sMixTo σ (k + 1) := by rw [sMixTo, ← ho]; exact (if_neg h).symm
theorem sMixTo_n1 {σ : St} {k : Nat} (ho : none = sMixTo σ k) (h : 0 < σ 4 k) : some k = sMixTo σ (k + 1) := by rw [sMixTo, ← ho]; exact (if_pos h).symm
theorem sMixTo_s0 {σ : St} {k e : Nat} (ho : some e = sMixTo σ k) (h : ¬ σ 4 e < σ 4 k) : some e = sMixTo σ (k + 1) := by rw [sMixTo, ← ho]; exact (if_neg h).symm
theorem sMixTo_s1 {σ : St} {k e : Nat} (ho : some e = sMixTo σ k) (h : σ 4 e < σ 4 k) : some k = sMixTo σ (k + 1) := by rw [sMixTo, ← ho]; exact (if_pos h).symm
theorem sMixTo_lt {σ : St} : ∀ {k e : Nat}, sMixTo σ k = some e → e < k
  | 0, e, h => by cases h
  | k + 1, e, h => by
    rw [sMixTo] at h
    split at h
    · split at h
      · cases h; exact Nat.lt_succ_self k
      · cases h
    · rename_i q
      split at h
      · cases h; exact Nat.lt_succ_self k
      · cases h; exact Nat.lt_succ_of_lt (sMixTo_lt q)
def sMixed (σ : St) : Option Nat := sMixTo σ (σ 0 0)
theorem lgZ {x y : Int64} : (lg_cmp x y).toInt < 0 ↔ x.toInt < y.toInt := by
  have h := lg_cmp_lt x y
  rw [Int32.lt_iff_toInt_lt, Int64.lt_iff_toInt_lt] at h
  exact h
theorem lN_Z {n : Nat} (h : n < 2 ^ 63) : (lN n).toInt = (n : Int) := lg_ofNat_toInt h
set_option maxHeartbeats 4000000 in
set_option maxRecDepth 20000 in
theorem c_X10_bestName {h : eH} {n b ℓ c g p m : Nat} {σ : St} {x : Nat → Nat} {τ τs : Nat → St} {us : Nat → Nat} (hO : eNB h b σ x ℓ c τ us τs) (hK : eOK σ) (hg : g < σ 0 0) (hp : p < σ 0 0) (hm : 1 ≤ m ∧ m ≤ 2) : kX10_bestName [.ref b, .int (nI g), .int (nI p), .int (nI m)] h n (.inl (some (.int (oI (sBest σ g p m)))), (fun g => eNB g b σ x ℓ c τ us τs ∧ eFr h g b (b + 317)), some n) 0 0 := by
  refine eM.of RX10 "bestName" [(0, .ref b), (1, .int (nI g)), (2, .int (nI p)), (3, .int (nI m))] pn_X10 rfl rfl (Nat.le_of_ble_eq_true rfl) rfl ?_
  obtain ⟨o0, ⟨k0, u0, oT, hsm⟩, oR, ⟨ρ, oR2⟩, ⟨f0, oP⟩, oS, ⟨wt, oW⟩⟩ := id hO
  have FR : eFr h h b (b + 317) := eFr.rf
  refine ev_aload_n dX10_bestName_0 rfl rfl ?_
  refine ev_iload_n dX10_bestName_1 rfl rfl ?_
  refine ev_callVv dX10_bestName_2 (c_X10_requirePerson hO hK.1 hg) rfl lk_X10_132 (by first | assumption | omega | exact ePp.ob (by assumption) | exact eNm.ob (by assumption) | exact eRg.ob (by assumption) | exact eTx.ob (by assumption) | exact ePa.ob (by assumption) | exact eSe.ob (by assumption) | exact eSl.ob (by assumption)) ⟨Nat.le_of_ble_eq_true rfl, Nat.le_of_ble_eq_true rfl⟩ rfl (Nat.le_of_ble_eq_true rfl) ⟨by first | exact Nat.le_of_ble_eq_true rfl | omega, by first | exact Nat.le_of_ble_eq_true rfl | omega⟩ (eRo ?_)
  refine ev_aload_n dX10_bestName_5 rfl rfl ?_
  refine ev_iload_n dX10_bestName_6 rfl rfl ?_
  refine ev_callVv dX10_bestName_7 (c_X10_requirePerson hO hK.1 hp) rfl lk_X10_132 (by first | assumption | omega | exact ePp.ob (by assumption) | exact eNm.ob (by assumption) | exact eRg.ob (by assumption) | exact eTx.ob (by assumption) | exact ePa.ob (by assumption) | exact eSe.ob (by assumption) | exact eSl.ob (by assumption)) ⟨Nat.le_of_ble_eq_true rfl, Nat.le_of_ble_eq_true rfl⟩ rfl (Nat.le_of_ble_eq_true rfl) ⟨by first | exact Nat.le_of_ble_eq_true rfl | omega, by first | exact Nat.le_of_ble_eq_true rfl | omega⟩ (eRo ?_)
  refine ev_iload_n dX10_bestName_10 rfl rfl ?_
  refine ev_iconst (v := nI 1) dX10_bestName_11 rfl ?_
  first | ((with_reducible show eV _ _ _ (Value.int (nI _) :: Value.int (nI _) :: _) _ _ _ _); refine ev_icmp_eqN (tgt := 31) dX10_bestName_12 (by decide) (by omega) (by omega) (fun c_12 => ?_) (fun c_12 => ?_)) | ((with_reducible show eV _ _ _ (Value.int (-1) :: Value.int (oI _) :: _) _ _ _ _); refine ev_icmp_eqO (tgt := 31) dX10_bestName_12 (by decide) (by first | assumption | (intro k9 h9; exact absurd h9 (by simp)) | (intro k9 h9; have := (fst_lt h9).1; omega) | (intro k9 h9; cases h9; omega)) (fun c_12 => ?_) (fun c_12 => ?_)) | ((with_reducible show eV _ _ _ (Value.int (oI _) :: Value.int (nI _) :: _) _ _ _ _); refine ev_icmp_eqNO (tgt := 31) dX10_bestName_12 (by decide) (by omega) (by first | assumption | (intro k9 h9; exact absurd h9 (by simp)) | (intro k9 h9; have := (fst_lt h9).1; omega) | (intro k9 h9; cases h9; omega)) (fun c_12 => ?_) (fun c_12 => ?_)) | ((with_reducible show eV _ _ _ (Value.int (nI _) :: Value.int (oI _) :: _) _ _ _ _); refine ev_icmp_eqON (tgt := 31) dX10_bestName_12 (by decide) (by omega) (by first | assumption | (intro k9 h9; exact absurd h9 (by simp)) | (intro k9 h9; have := (fst_lt h9).1; omega) | (intro k9 h9; cases h9; omega)) (fun c_12 => ?_) (fun c_12 => ?_)) | ((with_reducible show eV _ _ _ (Value.int (nI _) :: _) _ _ _ _); refine ev_icmp_eqZN (tgt := 31) dX10_bestName_12 (by decide) (by omega) (fun c_12 => ?_) (fun c_12 => ?_)) | ((with_reducible show eV _ _ _ (_ :: Value.int (nI _) :: _) _ _ _ _); refine ev_icmp_eqNZ (tgt := 31) dX10_bestName_12 (by decide) (by omega) (fun c_12 => ?_) (fun c_12 => ?_)) | (refine ev_icmp_eqZZ (tgt := 31) dX10_bestName_12 (by decide) (fun c_12 => ?_) (fun c_12 => ?_))
  · refine ev_aload_n dX10_bestName_31 rfl rfl ?_
    refine ev_getfield dX10_bestName_32 fl_X10_43 (by first | assumption | omega | exact ePp.ob (by assumption) | exact eNm.ob (by assumption) | exact eRg.ob (by assumption) | exact eTx.ob (by assumption) | exact ePa.ob (by assumption) | exact eSe.ob (by assumption) | exact eSl.ob (by assumption)) rfl ?_
    refine ev_aload_n dX10_bestName_35 rfl rfl ?_
    refine ev_getfield dX10_bestName_36 fl_X10_19 (by first | assumption | omega | exact ePp.ob (by assumption) | exact eNm.ob (by assumption) | exact eRg.ob (by assumption) | exact eTx.ob (by assumption) | exact ePa.ob (by assumption) | exact eSe.ob (by assumption) | exact eSl.ob (by assumption)) rfl ?_
    refine ev_iload_n dX10_bestName_39 rfl rfl ?_
    refine ev_iload_n dX10_bestName_40 rfl rfl ?_
    refine ev_iload_n dX10_bestName_41 rfl rfl ?_
    refine ev_callVi dX10_bestName_42 (c_X1_bestCode oW oR hK hg hp hm (by omega)) rfl lk_X10_292 (by first | assumption | omega | exact ePp.ob (by assumption) | exact eNm.ob (by assumption) | exact eRg.ob (by assumption) | exact eTx.ob (by assumption) | exact ePa.ob (by assumption) | exact eSe.ob (by assumption) | exact eSl.ob (by assumption)) ⟨Nat.le_of_ble_eq_true rfl, Nat.le_of_ble_eq_true rfl⟩ rfl (Nat.le_of_ble_eq_true rfl) ⟨by first | exact Nat.le_of_ble_eq_true rfl | omega, by first | exact Nat.le_of_ble_eq_true rfl | omega⟩ (fun g_42 hg_42 => ?_)
    obtain ⟨w_42, fr_42⟩ := hg_42
    first | replace o0 := eArr.fr o0 (fr_42 _ (by omega)) | replace o0 := Eq.trans (fr_42 _ (by omega)) o0 | replace o0 := eBo.fr o0 (fr_42 _ (by omega)) | replace o0 := z_42 o0 | replace o0 := z_42 | replace o0 := ePp.fr1 o0 (fun a _ _ => fr_42 a (by omega)) | replace o0 := eNm.fr1 o0 (fun a _ _ => fr_42 a (by omega)) | replace o0 := eRg.fr o0 (fun a _ _ => fr_42 a (by omega)) | replace o0 := eTx.fr o0 (fun a _ _ => fr_42 a (by omega)) | replace o0 := ePa.fr o0 (fun a _ _ => fr_42 a (by omega)) | replace o0 := eRf.fr o0 (fr_42 _ (by omega)) | replace o0 := eSl.fr o0 (fun a _ _ => fr_42 a (by omega)) | replace o0 := eSe.fr o0 (fun a _ _ => fr_42 a (by omega))
    first | replace oT := eArr.fr oT (fr_42 _ (by omega)) | replace oT := Eq.trans (fr_42 _ (by omega)) oT | replace oT := eBo.fr oT (fr_42 _ (by omega)) | replace oT := z_42 oT | replace oT := z_42 | replace oT := ePp.fr1 oT (fun a _ _ => fr_42 a (by omega)) | replace oT := eNm.fr1 oT (fun a _ _ => fr_42 a (by omega)) | replace oT := eRg.fr oT (fun a _ _ => fr_42 a (by omega)) | replace oT := eTx.fr oT (fun a _ _ => fr_42 a (by omega)) | replace oT := ePa.fr oT (fun a _ _ => fr_42 a (by omega)) | replace oT := eRf.fr oT (fr_42 _ (by omega)) | replace oT := eSl.fr oT (fun a _ _ => fr_42 a (by omega)) | replace oT := eSe.fr oT (fun a _ _ => fr_42 a (by omega))
    first | replace oR := eArr.fr oR (fr_42 _ (by omega)) | replace oR := Eq.trans (fr_42 _ (by omega)) oR | replace oR := eBo.fr oR (fr_42 _ (by omega)) | replace oR := z_42 oR | replace oR := z_42 | replace oR := ePp.fr1 oR (fun a _ _ => fr_42 a (by omega)) | replace oR := eNm.fr1 oR (fun a _ _ => fr_42 a (by omega)) | replace oR := eRg.fr oR (fun a _ _ => fr_42 a (by omega)) | replace oR := eTx.fr oR (fun a _ _ => fr_42 a (by omega)) | replace oR := ePa.fr oR (fun a _ _ => fr_42 a (by omega)) | replace oR := eRf.fr oR (fr_42 _ (by omega)) | replace oR := eSl.fr oR (fun a _ _ => fr_42 a (by omega)) | replace oR := eSe.fr oR (fun a _ _ => fr_42 a (by omega))
    first | replace oR2 := eArr.fr oR2 (fr_42 _ (by omega)) | replace oR2 := Eq.trans (fr_42 _ (by omega)) oR2 | replace oR2 := eBo.fr oR2 (fr_42 _ (by omega)) | replace oR2 := z_42 oR2 | replace oR2 := z_42 | replace oR2 := ePp.fr1 oR2 (fun a _ _ => fr_42 a (by omega)) | replace oR2 := eNm.fr1 oR2 (fun a _ _ => fr_42 a (by omega)) | replace oR2 := eRg.fr oR2 (fun a _ _ => fr_42 a (by omega)) | replace oR2 := eTx.fr oR2 (fun a _ _ => fr_42 a (by omega)) | replace oR2 := ePa.fr oR2 (fun a _ _ => fr_42 a (by omega)) | replace oR2 := eRf.fr oR2 (fr_42 _ (by omega)) | replace oR2 := eSl.fr oR2 (fun a _ _ => fr_42 a (by omega)) | replace oR2 := eSe.fr oR2 (fun a _ _ => fr_42 a (by omega))
    first | replace oP := eArr.fr oP (fr_42 _ (by omega)) | replace oP := Eq.trans (fr_42 _ (by omega)) oP | replace oP := eBo.fr oP (fr_42 _ (by omega)) | replace oP := z_42 oP | replace oP := z_42 | replace oP := ePp.fr1 oP (fun a _ _ => fr_42 a (by omega)) | replace oP := eNm.fr1 oP (fun a _ _ => fr_42 a (by omega)) | replace oP := eRg.fr oP (fun a _ _ => fr_42 a (by omega)) | replace oP := eTx.fr oP (fun a _ _ => fr_42 a (by omega)) | replace oP := ePa.fr oP (fun a _ _ => fr_42 a (by omega)) | replace oP := eRf.fr oP (fr_42 _ (by omega)) | replace oP := eSl.fr oP (fun a _ _ => fr_42 a (by omega)) | replace oP := eSe.fr oP (fun a _ _ => fr_42 a (by omega))
    first | replace oS := eArr.fr oS (fr_42 _ (by omega)) | replace oS := Eq.trans (fr_42 _ (by omega)) oS | replace oS := eBo.fr oS (fr_42 _ (by omega)) | replace oS := z_42 oS | replace oS := z_42 | replace oS := ePp.fr1 oS (fun a _ _ => fr_42 a (by omega)) | replace oS := eNm.fr1 oS (fun a _ _ => fr_42 a (by omega)) | replace oS := eRg.fr oS (fun a _ _ => fr_42 a (by omega)) | replace oS := eTx.fr oS (fun a _ _ => fr_42 a (by omega)) | replace oS := ePa.fr oS (fun a _ _ => fr_42 a (by omega)) | replace oS := eRf.fr oS (fr_42 _ (by omega)) | replace oS := eSl.fr oS (fun a _ _ => fr_42 a (by omega)) | replace oS := eSe.fr oS (fun a _ _ => fr_42 a (by omega))
    replace oW := w_42
    first | replace FR := eFr.trans FR (eFr.one fr_42 (by omega) (by omega)) | replace FR := eFr.trans FR (eFr.wide fr_42 (by omega) (by omega))
    exact ev_iret dX10_bestName_45 rfl rfl (by rfl) (by exact ⟨⟨o0, ⟨k0, u0, oT, hsm⟩, oR, ⟨ρ, oR2⟩, ⟨f0, oP⟩, oS, oW⟩, FR⟩) (fun _ e => Option.some.inj e) (Nat.le_of_ble_eq_true rfl) (Nat.le_of_ble_eq_true rfl)
  · refine ev_iload_n dX10_bestName_15 rfl rfl ?_
    refine ev_iconst (v := nI 2) dX10_bestName_16 rfl ?_
    first | ((with_reducible show eV _ _ _ (Value.int (nI _) :: Value.int (nI _) :: _) _ _ _ _); refine ev_icmp_eqN (tgt := 31) dX10_bestName_17 (by decide) (by omega) (by omega) (fun c_17 => ?_) (fun c_17 => ?_)) | ((with_reducible show eV _ _ _ (Value.int (-1) :: Value.int (oI _) :: _) _ _ _ _); refine ev_icmp_eqO (tgt := 31) dX10_bestName_17 (by decide) (by first | assumption | (intro k9 h9; exact absurd h9 (by simp)) | (intro k9 h9; have := (fst_lt h9).1; omega) | (intro k9 h9; cases h9; omega)) (fun c_17 => ?_) (fun c_17 => ?_)) | ((with_reducible show eV _ _ _ (Value.int (oI _) :: Value.int (nI _) :: _) _ _ _ _); refine ev_icmp_eqNO (tgt := 31) dX10_bestName_17 (by decide) (by omega) (by first | assumption | (intro k9 h9; exact absurd h9 (by simp)) | (intro k9 h9; have := (fst_lt h9).1; omega) | (intro k9 h9; cases h9; omega)) (fun c_17 => ?_) (fun c_17 => ?_)) | ((with_reducible show eV _ _ _ (Value.int (nI _) :: Value.int (oI _) :: _) _ _ _ _); refine ev_icmp_eqON (tgt := 31) dX10_bestName_17 (by decide) (by omega) (by first | assumption | (intro k9 h9; exact absurd h9 (by simp)) | (intro k9 h9; have := (fst_lt h9).1; omega) | (intro k9 h9; cases h9; omega)) (fun c_17 => ?_) (fun c_17 => ?_)) | ((with_reducible show eV _ _ _ (Value.int (nI _) :: _) _ _ _ _); refine ev_icmp_eqZN (tgt := 31) dX10_bestName_17 (by decide) (by omega) (fun c_17 => ?_) (fun c_17 => ?_)) | ((with_reducible show eV _ _ _ (_ :: Value.int (nI _) :: _) _ _ _ _); refine ev_icmp_eqNZ (tgt := 31) dX10_bestName_17 (by decide) (by omega) (fun c_17 => ?_) (fun c_17 => ?_)) | (refine ev_icmp_eqZZ (tgt := 31) dX10_bestName_17 (by decide) (fun c_17 => ?_) (fun c_17 => ?_))
    · refine ev_aload_n dX10_bestName_31 rfl rfl ?_
      refine ev_getfield dX10_bestName_32 fl_X10_43 (by first | assumption | omega | exact ePp.ob (by assumption) | exact eNm.ob (by assumption) | exact eRg.ob (by assumption) | exact eTx.ob (by assumption) | exact ePa.ob (by assumption) | exact eSe.ob (by assumption) | exact eSl.ob (by assumption)) rfl ?_
      refine ev_aload_n dX10_bestName_35 rfl rfl ?_
      refine ev_getfield dX10_bestName_36 fl_X10_19 (by first | assumption | omega | exact ePp.ob (by assumption) | exact eNm.ob (by assumption) | exact eRg.ob (by assumption) | exact eTx.ob (by assumption) | exact ePa.ob (by assumption) | exact eSe.ob (by assumption) | exact eSl.ob (by assumption)) rfl ?_
      refine ev_iload_n dX10_bestName_39 rfl rfl ?_
      refine ev_iload_n dX10_bestName_40 rfl rfl ?_
      refine ev_iload_n dX10_bestName_41 rfl rfl ?_
      refine ev_callVi dX10_bestName_42 (c_X1_bestCode oW oR hK hg hp hm (by omega)) rfl lk_X10_292 (by first | assumption | omega | exact ePp.ob (by assumption) | exact eNm.ob (by assumption) | exact eRg.ob (by assumption) | exact eTx.ob (by assumption) | exact ePa.ob (by assumption) | exact eSe.ob (by assumption) | exact eSl.ob (by assumption)) ⟨Nat.le_of_ble_eq_true rfl, Nat.le_of_ble_eq_true rfl⟩ rfl (Nat.le_of_ble_eq_true rfl) ⟨by first | exact Nat.le_of_ble_eq_true rfl | omega, by first | exact Nat.le_of_ble_eq_true rfl | omega⟩ (fun g_42 hg_42 => ?_)
      obtain ⟨w_42, fr_42⟩ := hg_42
      first | replace o0 := eArr.fr o0 (fr_42 _ (by omega)) | replace o0 := Eq.trans (fr_42 _ (by omega)) o0 | replace o0 := eBo.fr o0 (fr_42 _ (by omega)) | replace o0 := z_42 o0 | replace o0 := z_42 | replace o0 := ePp.fr1 o0 (fun a _ _ => fr_42 a (by omega)) | replace o0 := eNm.fr1 o0 (fun a _ _ => fr_42 a (by omega)) | replace o0 := eRg.fr o0 (fun a _ _ => fr_42 a (by omega)) | replace o0 := eTx.fr o0 (fun a _ _ => fr_42 a (by omega)) | replace o0 := ePa.fr o0 (fun a _ _ => fr_42 a (by omega)) | replace o0 := eRf.fr o0 (fr_42 _ (by omega)) | replace o0 := eSl.fr o0 (fun a _ _ => fr_42 a (by omega)) | replace o0 := eSe.fr o0 (fun a _ _ => fr_42 a (by omega))
      first | replace oT := eArr.fr oT (fr_42 _ (by omega)) | replace oT := Eq.trans (fr_42 _ (by omega)) oT | replace oT := eBo.fr oT (fr_42 _ (by omega)) | replace oT := z_42 oT | replace oT := z_42 | replace oT := ePp.fr1 oT (fun a _ _ => fr_42 a (by omega)) | replace oT := eNm.fr1 oT (fun a _ _ => fr_42 a (by omega)) | replace oT := eRg.fr oT (fun a _ _ => fr_42 a (by omega)) | replace oT := eTx.fr oT (fun a _ _ => fr_42 a (by omega)) | replace oT := ePa.fr oT (fun a _ _ => fr_42 a (by omega)) | replace oT := eRf.fr oT (fr_42 _ (by omega)) | replace oT := eSl.fr oT (fun a _ _ => fr_42 a (by omega)) | replace oT := eSe.fr oT (fun a _ _ => fr_42 a (by omega))
      first | replace oR := eArr.fr oR (fr_42 _ (by omega)) | replace oR := Eq.trans (fr_42 _ (by omega)) oR | replace oR := eBo.fr oR (fr_42 _ (by omega)) | replace oR := z_42 oR | replace oR := z_42 | replace oR := ePp.fr1 oR (fun a _ _ => fr_42 a (by omega)) | replace oR := eNm.fr1 oR (fun a _ _ => fr_42 a (by omega)) | replace oR := eRg.fr oR (fun a _ _ => fr_42 a (by omega)) | replace oR := eTx.fr oR (fun a _ _ => fr_42 a (by omega)) | replace oR := ePa.fr oR (fun a _ _ => fr_42 a (by omega)) | replace oR := eRf.fr oR (fr_42 _ (by omega)) | replace oR := eSl.fr oR (fun a _ _ => fr_42 a (by omega)) | replace oR := eSe.fr oR (fun a _ _ => fr_42 a (by omega))
      first | replace oR2 := eArr.fr oR2 (fr_42 _ (by omega)) | replace oR2 := Eq.trans (fr_42 _ (by omega)) oR2 | replace oR2 := eBo.fr oR2 (fr_42 _ (by omega)) | replace oR2 := z_42 oR2 | replace oR2 := z_42 | replace oR2 := ePp.fr1 oR2 (fun a _ _ => fr_42 a (by omega)) | replace oR2 := eNm.fr1 oR2 (fun a _ _ => fr_42 a (by omega)) | replace oR2 := eRg.fr oR2 (fun a _ _ => fr_42 a (by omega)) | replace oR2 := eTx.fr oR2 (fun a _ _ => fr_42 a (by omega)) | replace oR2 := ePa.fr oR2 (fun a _ _ => fr_42 a (by omega)) | replace oR2 := eRf.fr oR2 (fr_42 _ (by omega)) | replace oR2 := eSl.fr oR2 (fun a _ _ => fr_42 a (by omega)) | replace oR2 := eSe.fr oR2 (fun a _ _ => fr_42 a (by omega))
      first | replace oP := eArr.fr oP (fr_42 _ (by omega)) | replace oP := Eq.trans (fr_42 _ (by omega)) oP | replace oP := eBo.fr oP (fr_42 _ (by omega)) | replace oP := z_42 oP | replace oP := z_42 | replace oP := ePp.fr1 oP (fun a _ _ => fr_42 a (by omega)) | replace oP := eNm.fr1 oP (fun a _ _ => fr_42 a (by omega)) | replace oP := eRg.fr oP (fun a _ _ => fr_42 a (by omega)) | replace oP := eTx.fr oP (fun a _ _ => fr_42 a (by omega)) | replace oP := ePa.fr oP (fun a _ _ => fr_42 a (by omega)) | replace oP := eRf.fr oP (fr_42 _ (by omega)) | replace oP := eSl.fr oP (fun a _ _ => fr_42 a (by omega)) | replace oP := eSe.fr oP (fun a _ _ => fr_42 a (by omega))
      first | replace oS := eArr.fr oS (fr_42 _ (by omega)) | replace oS := Eq.trans (fr_42 _ (by omega)) oS | replace oS := eBo.fr oS (fr_42 _ (by omega)) | replace oS := z_42 oS | replace oS := z_42 | replace oS := ePp.fr1 oS (fun a _ _ => fr_42 a (by omega)) | replace oS := eNm.fr1 oS (fun a _ _ => fr_42 a (by omega)) | replace oS := eRg.fr oS (fun a _ _ => fr_42 a (by omega)) | replace oS := eTx.fr oS (fun a _ _ => fr_42 a (by omega)) | replace oS := ePa.fr oS (fun a _ _ => fr_42 a (by omega)) | replace oS := eRf.fr oS (fr_42 _ (by omega)) | replace oS := eSl.fr oS (fun a _ _ => fr_42 a (by omega)) | replace oS := eSe.fr oS (fun a _ _ => fr_42 a (by omega))
      replace oW := w_42
      first | replace FR := eFr.trans FR (eFr.one fr_42 (by omega) (by omega)) | replace FR := eFr.trans FR (eFr.wide fr_42 (by omega) (by omega))
      exact ev_iret dX10_bestName_45 rfl rfl (by rfl) (by exact ⟨⟨o0, ⟨k0, u0, oT, hsm⟩, oR, ⟨ρ, oR2⟩, ⟨f0, oP⟩, oS, oW⟩, FR⟩) (fun _ e => Option.some.inj e) (Nat.le_of_ble_eq_true rfl) (Nat.le_of_ble_eq_true rfl)
    · exact absurd hm (by omega)
set_option maxHeartbeats 4000000 in
set_option maxRecDepth 20000 in
theorem c_X10_bestName_1 {h : eH} {n b ℓ c : Nat} {z z2 z3 : Int32} {σ : St} {x : Nat → Nat} {τ τs : Nat → St} {us : Nat → Nat} (hO : eNB h b σ x ℓ c τ us τs) (hB : eB σ) (hz : ¬ (0 ≤ z.toInt ∧ z.toInt < (σ 0 0 : Int))) : kX10_bestName [.ref b, .int z, .int z2, .int z3] h n (.inr "java/lang/IndexOutOfBoundsException", (· = h), none) 1 6 := by
  refine eM.of RX10 "bestName" [(0, .ref b), (1, .int z), (2, .int z2), (3, .int z3)] pn_X10 rfl rfl (Nat.le_of_ble_eq_true rfl) rfl ?_
  have o0 := hO.1
  refine ev_aload_n dX10_bestName_0 rfl rfl ?_
  refine ev_iload_n dX10_bestName_1 rfl rfl ?_
  refine ev_callVx dX10_bestName_2 (c_X10_requirePerson_n hO hB hz) rfl lk_X10_132 (by first | assumption | omega | exact ePp.ob (by assumption) | exact eNm.ob (by assumption) | exact eRg.ob (by assumption) | exact eTx.ob (by assumption) | exact ePa.ob (by assumption) | exact eSe.ob (by assumption) | exact eSl.ob (by assumption)) ⟨Nat.le_of_ble_eq_true rfl, Nat.le_of_ble_eq_true rfl⟩ rfl (Nat.le_of_ble_eq_true rfl) ⟨by first | exact Nat.le_of_ble_eq_true rfl | omega, by first | exact Nat.le_of_ble_eq_true rfl | omega⟩ rfl rfl (fun _ hg_2 => hg_2)
set_option maxHeartbeats 4000000 in
set_option maxRecDepth 20000 in
theorem c_X10_bestName_2 {h : eH} {n b ℓ c g : Nat} {z2 z3 : Int32} {σ : St} {x : Nat → Nat} {τ τs : Nat → St} {us : Nat → Nat} (hO : eNB h b σ x ℓ c τ us τs) (hB : eB σ) (hg : g < σ 0 0) (hz : ¬ (0 ≤ z2.toInt ∧ z2.toInt < (σ 0 0 : Int))) : kX10_bestName [.ref b, .int (nI g), .int z2, .int z3] h n (.inr "java/lang/IndexOutOfBoundsException", (· = h), none) 1 6 := by
  refine eM.of RX10 "bestName" [(0, .ref b), (1, .int (nI g)), (2, .int z2), (3, .int z3)] pn_X10 rfl rfl (Nat.le_of_ble_eq_true rfl) rfl ?_
  have o0 := hO.1
  refine ev_aload_n dX10_bestName_0 rfl rfl ?_
  refine ev_iload_n dX10_bestName_1 rfl rfl ?_
  refine ev_callVv dX10_bestName_2 (c_X10_requirePerson hO hB hg) rfl lk_X10_132 (by first | assumption | omega | exact ePp.ob (by assumption) | exact eNm.ob (by assumption) | exact eRg.ob (by assumption) | exact eTx.ob (by assumption) | exact ePa.ob (by assumption) | exact eSe.ob (by assumption) | exact eSl.ob (by assumption)) ⟨Nat.le_of_ble_eq_true rfl, Nat.le_of_ble_eq_true rfl⟩ rfl (Nat.le_of_ble_eq_true rfl) ⟨by first | exact Nat.le_of_ble_eq_true rfl | omega, by first | exact Nat.le_of_ble_eq_true rfl | omega⟩ (eRo ?_)
  refine ev_aload_n dX10_bestName_5 rfl rfl ?_
  refine ev_iload_n dX10_bestName_6 rfl rfl ?_
  refine ev_callVx dX10_bestName_7 (c_X10_requirePerson_n hO hB hz) rfl lk_X10_132 (by first | assumption | omega | exact ePp.ob (by assumption) | exact eNm.ob (by assumption) | exact eRg.ob (by assumption) | exact eTx.ob (by assumption) | exact ePa.ob (by assumption) | exact eSe.ob (by assumption) | exact eSl.ob (by assumption)) ⟨Nat.le_of_ble_eq_true rfl, Nat.le_of_ble_eq_true rfl⟩ rfl (Nat.le_of_ble_eq_true rfl) ⟨by first | exact Nat.le_of_ble_eq_true rfl | omega, by first | exact Nat.le_of_ble_eq_true rfl | omega⟩ rfl rfl (fun _ hg_7 => hg_7)
set_option maxHeartbeats 4000000 in
set_option maxRecDepth 20000 in
theorem c_X10_bestName_3 {h : eH} {n b ℓ c g p : Nat} {z3 : Int32} {σ : St} {x : Nat → Nat} {τ τs : Nat → St} {us : Nat → Nat} (hO : eNB h b σ x ℓ c τ us τs) (hB : eB σ) (hg : g < σ 0 0) (hp : p < σ 0 0) (hz : ¬ (1 ≤ z3.toInt ∧ z3.toInt < (3 : Nat))) : kX10_bestName [.ref b, .int (nI g), .int (nI p), .int z3] h n (.inr "java/lang/IllegalArgumentException", (· = h), none) 1 6 := by
  refine eM.of RX10 "bestName" [(0, .ref b), (1, .int (nI g)), (2, .int (nI p)), (3, .int z3)] pn_X10 rfl rfl (Nat.le_of_ble_eq_true rfl) rfl ?_
  have o0 := hO.1
  refine ev_aload_n dX10_bestName_0 rfl rfl ?_
  refine ev_iload_n dX10_bestName_1 rfl rfl ?_
  refine ev_callVv dX10_bestName_2 (c_X10_requirePerson hO hB hg) rfl lk_X10_132 (by first | assumption | omega | exact ePp.ob (by assumption) | exact eNm.ob (by assumption) | exact eRg.ob (by assumption) | exact eTx.ob (by assumption) | exact ePa.ob (by assumption) | exact eSe.ob (by assumption) | exact eSl.ob (by assumption)) ⟨Nat.le_of_ble_eq_true rfl, Nat.le_of_ble_eq_true rfl⟩ rfl (Nat.le_of_ble_eq_true rfl) ⟨by first | exact Nat.le_of_ble_eq_true rfl | omega, by first | exact Nat.le_of_ble_eq_true rfl | omega⟩ (eRo ?_)
  refine ev_aload_n dX10_bestName_5 rfl rfl ?_
  refine ev_iload_n dX10_bestName_6 rfl rfl ?_
  refine ev_callVv dX10_bestName_7 (c_X10_requirePerson hO hB hp) rfl lk_X10_132 (by first | assumption | omega | exact ePp.ob (by assumption) | exact eNm.ob (by assumption) | exact eRg.ob (by assumption) | exact eTx.ob (by assumption) | exact ePa.ob (by assumption) | exact eSe.ob (by assumption) | exact eSl.ob (by assumption)) ⟨Nat.le_of_ble_eq_true rfl, Nat.le_of_ble_eq_true rfl⟩ rfl (Nat.le_of_ble_eq_true rfl) ⟨by first | exact Nat.le_of_ble_eq_true rfl | omega, by first | exact Nat.le_of_ble_eq_true rfl | omega⟩ (eRo ?_)
  refine ev_iload_n dX10_bestName_10 rfl rfl ?_
  refine ev_iconst (v := nI 1) dX10_bestName_11 rfl ?_
  first | ((with_reducible show eV _ _ _ (Value.int (nI _) :: Value.int (nI _) :: _) _ _ _ _); refine ev_icmp_eqN (tgt := 31) dX10_bestName_12 (by decide) (by first | exact hB _ _ | omega) (by first | exact hB _ _ | omega) (fun c_12 => ?_) (fun c_12 => ?_)) | ((with_reducible show eV _ _ _ (Value.int (-1) :: Value.int (oI _) :: _) _ _ _ _); refine ev_icmp_eqO (tgt := 31) dX10_bestName_12 (by decide) (by first | assumption | (intro k9 h9; exact absurd h9 (by simp)) | (intro k9 h9; have := (fst_lt h9).1; omega) | (intro k9 h9; cases h9; omega)) (fun c_12 => ?_) (fun c_12 => ?_)) | ((with_reducible show eV _ _ _ (Value.int (oI _) :: Value.int (nI _) :: _) _ _ _ _); refine ev_icmp_eqNO (tgt := 31) dX10_bestName_12 (by decide) (by first | exact hB _ _ | omega) (by first | assumption | (intro k9 h9; exact absurd h9 (by simp)) | (intro k9 h9; have := (fst_lt h9).1; omega) | (intro k9 h9; cases h9; omega)) (fun c_12 => ?_) (fun c_12 => ?_)) | ((with_reducible show eV _ _ _ (Value.int (nI _) :: Value.int (oI _) :: _) _ _ _ _); refine ev_icmp_eqON (tgt := 31) dX10_bestName_12 (by decide) (by first | exact hB _ _ | omega) (by first | assumption | (intro k9 h9; exact absurd h9 (by simp)) | (intro k9 h9; have := (fst_lt h9).1; omega) | (intro k9 h9; cases h9; omega)) (fun c_12 => ?_) (fun c_12 => ?_)) | ((with_reducible show eV _ _ _ (Value.int (nI _) :: _) _ _ _ _); refine ev_icmp_eqZN (tgt := 31) dX10_bestName_12 (by decide) (by first | exact hB _ _ | omega) (fun c_12 => ?_) (fun c_12 => ?_)) | ((with_reducible show eV _ _ _ (_ :: Value.int (nI _) :: _) _ _ _ _); refine ev_icmp_eqNZ (tgt := 31) dX10_bestName_12 (by decide) (by first | exact hB _ _ | omega) (fun c_12 => ?_) (fun c_12 => ?_)) | (refine ev_icmp_eqZZ (tgt := 31) dX10_bestName_12 (by decide) (fun c_12 => ?_) (fun c_12 => ?_))
  · exact absurd hz (by omega)
  · refine ev_iload_n dX10_bestName_15 rfl rfl ?_
    refine ev_iconst (v := nI 2) dX10_bestName_16 rfl ?_
    first | ((with_reducible show eV _ _ _ (Value.int (nI _) :: Value.int (nI _) :: _) _ _ _ _); refine ev_icmp_eqN (tgt := 31) dX10_bestName_17 (by decide) (by first | exact hB _ _ | omega) (by first | exact hB _ _ | omega) (fun c_17 => ?_) (fun c_17 => ?_)) | ((with_reducible show eV _ _ _ (Value.int (-1) :: Value.int (oI _) :: _) _ _ _ _); refine ev_icmp_eqO (tgt := 31) dX10_bestName_17 (by decide) (by first | assumption | (intro k9 h9; exact absurd h9 (by simp)) | (intro k9 h9; have := (fst_lt h9).1; omega) | (intro k9 h9; cases h9; omega)) (fun c_17 => ?_) (fun c_17 => ?_)) | ((with_reducible show eV _ _ _ (Value.int (oI _) :: Value.int (nI _) :: _) _ _ _ _); refine ev_icmp_eqNO (tgt := 31) dX10_bestName_17 (by decide) (by first | exact hB _ _ | omega) (by first | assumption | (intro k9 h9; exact absurd h9 (by simp)) | (intro k9 h9; have := (fst_lt h9).1; omega) | (intro k9 h9; cases h9; omega)) (fun c_17 => ?_) (fun c_17 => ?_)) | ((with_reducible show eV _ _ _ (Value.int (nI _) :: Value.int (oI _) :: _) _ _ _ _); refine ev_icmp_eqON (tgt := 31) dX10_bestName_17 (by decide) (by first | exact hB _ _ | omega) (by first | assumption | (intro k9 h9; exact absurd h9 (by simp)) | (intro k9 h9; have := (fst_lt h9).1; omega) | (intro k9 h9; cases h9; omega)) (fun c_17 => ?_) (fun c_17 => ?_)) | ((with_reducible show eV _ _ _ (Value.int (nI _) :: _) _ _ _ _); refine ev_icmp_eqZN (tgt := 31) dX10_bestName_17 (by decide) (by first | exact hB _ _ | omega) (fun c_17 => ?_) (fun c_17 => ?_)) | ((with_reducible show eV _ _ _ (_ :: Value.int (nI _) :: _) _ _ _ _); refine ev_icmp_eqNZ (tgt := 31) dX10_bestName_17 (by decide) (by first | exact hB _ _ | omega) (fun c_17 => ?_) (fun c_17 => ?_)) | (refine ev_icmp_eqZZ (tgt := 31) dX10_bestName_17 (by decide) (fun c_17 => ?_) (fun c_17 => ?_))
    · exact absurd hz (by omega)
    · exact ev_throwSW (text := "1 or 2 letters") dX10_bestName_20 dX10_bestName_23 dX10_bestName_24 dX10_bestName_27 dX10_bestName_30 (by decide +kernel) (by decide +kernel) wk_X10_47 wi_java_lang_IllegalArgumentException (by decide +kernel) th_X10_51 tg_X10_47_51 rfl (Nat.le_of_ble_eq_true rfl) (Nat.le_of_ble_eq_true rfl) (Nat.le_of_ble_eq_true rfl) (Nat.le_of_ble_eq_true rfl) rfl (by rfl)
set_option maxHeartbeats 4000000 in
set_option maxRecDepth 20000 in
theorem c_X10_bestGiver {h : eH} {n b ℓ c : Nat} {σ : St} {x : Nat → Nat} {τ τs : Nat → St} {us : Nat → Nat} (hO : eNB h b σ x ℓ c τ us τs) (hK : eOK σ) : kX10_bestGiver [.ref b] h n (.inl (some (.int (oI (sBG σ)))), (· = h), some n) 0 0 := by
  refine eM.of RX10 "bestGiver" [(0, .ref b)] pn_X10 rfl rfl (Nat.le_of_ble_eq_true rfl) rfl ?_
  obtain ⟨o0, -, oR, -⟩ := id hO
  obtain ⟨r0, oPp, oN, oSt⟩ := id oR
  have hB : eB σ := hK.1
  have hz := hK.2.1
  have hz2 := hK.2.2.1
  refine ev_iconst (v := -1) dX10_bestGiver_0 (by decide) ?_
  refine ev_istore_n dX10_bestGiver_1 rfl (Nat.le_of_ble_eq_true rfl) ?_
  refine ev_iconst (v := nI 0) dX10_bestGiver_2 rfl ?_
  refine ev_istore_n dX10_bestGiver_3 rfl (Nat.le_of_ble_eq_true rfl) ?_
  have H_4 : ∀ (d_4 : Nat) (k : Nat) (o : Option Nat), d_4 = σ 0 0 - k → (k ≤ σ 0 0) → (o = sBGTo σ k) → eV mX10_bestGiver 4 [(0, .ref b), (1, .int (oI o)), (2, .int (nI k))] [] (h, n, 0, 0) (.inl (some (.int (oI (sBG σ)))), (· = h), some n) 0 0 := by
    intro d_4
    induction d_4 using Nat.strongRecOn with
    | _ d_4 ih_4 =>
    intro k o hd_4 hk ho
    refine ev_iload_n dX10_bestGiver_4 rfl rfl ?_
    refine ev_aload_n dX10_bestGiver_5 rfl rfl ?_
    refine ev_getfield dX10_bestGiver_6 fl_X10_19 (by first | assumption | omega | exact ePp.ob (by assumption) | exact eNm.ob (by assumption) | exact eRg.ob (by assumption) | exact eTx.ob (by assumption) | exact ePa.ob (by assumption) | exact eSe.ob (by assumption) | exact eSl.ob (by assumption)) rfl ?_
    refine ev_getfield dX10_bestGiver_9 fl_X10_91 (by first | assumption | omega | exact ePp.ob (by assumption) | exact eNm.ob (by assumption) | exact eRg.ob (by assumption) | exact eTx.ob (by assumption) | exact ePa.ob (by assumption) | exact eSe.ob (by assumption) | exact eSl.ob (by assumption)) rfl ?_
    refine ev_getfield dX10_bestGiver_12 fl_X10_95 (by first | assumption | omega | exact ePp.ob (by assumption) | exact eNm.ob (by assumption) | exact eRg.ob (by assumption) | exact eTx.ob (by assumption) | exact ePa.ob (by assumption) | exact eSe.ob (by assumption) | exact eSl.ob (by assumption)) rfl ?_
    first | ((with_reducible show eV _ _ _ (Value.int (nI _) :: Value.int (nI _) :: _) _ _ _ _); refine ev_icmp_geN (tgt := 60) dX10_bestGiver_15 (by decide) (by first | exact hB _ _ | omega | exact Nat.lt_of_le_of_lt (cnt_le _ _) (by omega)) (by first | exact hB _ _ | omega | exact Nat.lt_of_le_of_lt (cnt_le _ _) (by omega)) (fun c_15 => ?_) (fun c_15 => ?_)) | ((with_reducible show eV _ _ _ (Value.int (nI _) :: _) _ _ _ _); refine ev_icmp_geZN (tgt := 60) dX10_bestGiver_15 (by decide) (by first | exact hB _ _ | omega | exact Nat.lt_of_le_of_lt (cnt_le _ _) (by omega)) (fun c_15 => ?_) (fun c_15 => ?_)) | ((with_reducible show eV _ _ _ (_ :: Value.int (nI _) :: _) _ _ _ _); refine ev_icmp_geNZ (tgt := 60) dX10_bestGiver_15 (by decide) (by first | exact hB _ _ | omega | exact Nat.lt_of_le_of_lt (cnt_le _ _) (by omega)) (fun c_15 => ?_) (fun c_15 => ?_)) | (refine ev_icmp_geZZ (tgt := 60) dX10_bestGiver_15 (by decide) (fun c_15 => ?_) (fun c_15 => ?_))
    · refine ev_iload_n dX10_bestGiver_60 rfl rfl ?_
      exact ev_iret dX10_bestGiver_61 rfl rfl (by first | exact congrArg (fun o => Sum.inl (some (Value.int (oI o)))) (by have e : k = σ 0 0 := (by omega); rw [sBG, ho, ← e])) (by rfl) (fun _ e => Option.some.inj e) (Nat.le_of_ble_eq_true rfl) (Nat.le_of_ble_eq_true rfl)
    · refine ev_aload_n dX10_bestGiver_18 rfl rfl ?_
      refine ev_getfield dX10_bestGiver_19 fl_X10_19 (by first | assumption | omega | exact ePp.ob (by assumption) | exact eNm.ob (by assumption) | exact eRg.ob (by assumption) | exact eTx.ob (by assumption) | exact ePa.ob (by assumption) | exact eSe.ob (by assumption) | exact eSl.ob (by assumption)) rfl ?_
      refine ev_getfield dX10_bestGiver_22 fl_X10_100 (by first | assumption | omega | exact ePp.ob (by assumption) | exact eNm.ob (by assumption) | exact eRg.ob (by assumption) | exact eTx.ob (by assumption) | exact ePa.ob (by assumption) | exact eSe.ob (by assumption) | exact eSl.ob (by assumption)) rfl ?_
      refine ev_iload_n dX10_bestGiver_25 rfl rfl ?_
      refine ev_callVi dX10_bestGiver_26 (c_X2_givenBy oN hB (by omega)) rfl lk_X10_151 (by first | assumption | omega | exact ePp.ob (by assumption) | exact eNm.ob (by assumption) | exact eRg.ob (by assumption) | exact eTx.ob (by assumption) | exact ePa.ob (by assumption) | exact eSe.ob (by assumption) | exact eSl.ob (by assumption)) ⟨Nat.le_of_ble_eq_true rfl, Nat.le_of_ble_eq_true rfl⟩ rfl (Nat.le_of_ble_eq_true rfl) ⟨by first | exact Nat.le_of_ble_eq_true rfl | omega, by first | exact Nat.le_of_ble_eq_true rfl | omega⟩ (eRo ?_)
      first | ((with_reducible show eV _ _ _ (Value.int (nI _) :: _) _ _ _ _); refine ev_if_leN (tgt := 54) dX10_bestGiver_29 (by decide) (by first | exact hB _ _ | omega | exact Nat.lt_of_le_of_lt (cnt_le _ _) (by omega)) (fun c_29 => ?_) (fun c_29 => ?_)) | (refine ev_if_leZ (tgt := 54) dX10_bestGiver_29 (by decide) (fun c_29 => ?_) (fun c_29 => ?_))
      · first | refine ev_iincN dX10_bestGiver_54 rfl (Nat.le_of_ble_eq_true rfl) ?_ | refine ev_iinc dX10_bestGiver_54 rfl rfl (Nat.le_of_ble_eq_true rfl) ?_
        refine ev_goto (tgt := 4) dX10_bestGiver_57 (by decide) ?_
        first | (exact (ih_4 _ (by omega) (k + 1) (some k) rfl (by first | omega | assumption | rfl) (by first | exact sBGTo_0 ho c_29 | exact sBGTo_n ho c_29 | exact sBGTo_y ho c_29 c_49 | exact sBGTo_x ho c_29 c_49)).sub1 ⟨rfl, rfl, rfl, trivial⟩ rfl) | (exact (ih_4 _ (by omega) (k + 1) none rfl (by first | omega | assumption | rfl) (by first | exact sBGTo_0 ho c_29 | exact sBGTo_n ho c_29 | exact sBGTo_y ho c_29 c_49 | exact sBGTo_x ho c_29 c_49)).sub1 ⟨rfl, rfl, rfl, trivial⟩ rfl) | (exact (ih_4 _ (by omega) (k + 1) (some e) rfl (by first | omega | assumption | rfl) (by first | exact sBGTo_0 ho c_29 | exact sBGTo_n ho c_29 | exact sBGTo_y ho c_29 c_49 | exact sBGTo_x ho c_29 c_49)).sub1 ⟨rfl, rfl, rfl, trivial⟩ rfl) | (exact (ih_4 _ (by omega) (k + 1) o rfl (by first | omega | assumption | rfl) (by first | exact sBGTo_0 ho c_29 | exact sBGTo_n ho c_29 | exact sBGTo_y ho c_29 c_49 | exact sBGTo_x ho c_29 c_49)).sub1 ⟨rfl, rfl, rfl, trivial⟩ rfl)
      · refine ev_iload_n dX10_bestGiver_32 rfl rfl ?_
        refine ev_iconst (v := -1) dX10_bestGiver_33 (by decide) ?_
        first | ((with_reducible show eV _ _ _ (Value.int (nI _) :: Value.int (nI _) :: _) _ _ _ _); refine ev_icmp_eqN (tgt := 52) dX10_bestGiver_34 (by decide) (by first | exact hB _ _ | omega | exact Nat.lt_of_le_of_lt (cnt_le _ _) (by omega)) (by first | exact hB _ _ | omega | exact Nat.lt_of_le_of_lt (cnt_le _ _) (by omega)) (fun c_34 => ?_) (fun c_34 => ?_)) | ((with_reducible show eV _ _ _ (Value.int (-1) :: Value.int (oI _) :: _) _ _ _ _); refine ev_icmp_eqO (tgt := 52) dX10_bestGiver_34 (by decide) (by (intro k9 h9; have := sBGTo_lt (ho ▸ h9); omega)) (fun c_34 => ?_) (fun c_34 => ?_)) | ((with_reducible show eV _ _ _ (Value.int (oI _) :: Value.int (nI _) :: _) _ _ _ _); refine ev_icmp_eqNO (tgt := 52) dX10_bestGiver_34 (by decide) (by first | exact hB _ _ | omega | exact Nat.lt_of_le_of_lt (cnt_le _ _) (by omega)) (by (intro k9 h9; have := sBGTo_lt (ho ▸ h9); omega)) (fun c_34 => ?_) (fun c_34 => ?_)) | ((with_reducible show eV _ _ _ (Value.int (nI _) :: Value.int (oI _) :: _) _ _ _ _); refine ev_icmp_eqON (tgt := 52) dX10_bestGiver_34 (by decide) (by first | exact hB _ _ | omega | exact Nat.lt_of_le_of_lt (cnt_le _ _) (by omega)) (by (intro k9 h9; have := sBGTo_lt (ho ▸ h9); omega)) (fun c_34 => ?_) (fun c_34 => ?_)) | ((with_reducible show eV _ _ _ (Value.int (nI _) :: _) _ _ _ _); refine ev_icmp_eqZN (tgt := 52) dX10_bestGiver_34 (by decide) (by first | exact hB _ _ | omega | exact Nat.lt_of_le_of_lt (cnt_le _ _) (by omega)) (fun c_34 => ?_) (fun c_34 => ?_)) | ((with_reducible show eV _ _ _ (_ :: Value.int (nI _) :: _) _ _ _ _); refine ev_icmp_eqNZ (tgt := 52) dX10_bestGiver_34 (by decide) (by first | exact hB _ _ | omega | exact Nat.lt_of_le_of_lt (cnt_le _ _) (by omega)) (fun c_34 => ?_) (fun c_34 => ?_)) | (refine ev_icmp_eqZZ (tgt := 52) dX10_bestGiver_34 (by decide) (fun c_34 => ?_) (fun c_34 => ?_))
        · try subst c_34
          refine ev_iload_n dX10_bestGiver_52 rfl rfl ?_
          refine ev_istore_n dX10_bestGiver_53 rfl (Nat.le_of_ble_eq_true rfl) ?_
          first | refine ev_iincN dX10_bestGiver_54 rfl (Nat.le_of_ble_eq_true rfl) ?_ | refine ev_iinc dX10_bestGiver_54 rfl rfl (Nat.le_of_ble_eq_true rfl) ?_
          refine ev_goto (tgt := 4) dX10_bestGiver_57 (by decide) ?_
          first | (exact (ih_4 _ (by omega) (k + 1) (some k) rfl (by first | omega | assumption | rfl) (by first | exact sBGTo_0 ho c_29 | exact sBGTo_n ho c_29 | exact sBGTo_y ho c_29 c_49 | exact sBGTo_x ho c_29 c_49)).sub1 ⟨rfl, rfl, rfl, trivial⟩ rfl) | (exact (ih_4 _ (by omega) (k + 1) none rfl (by first | omega | assumption | rfl) (by first | exact sBGTo_0 ho c_29 | exact sBGTo_n ho c_29 | exact sBGTo_y ho c_29 c_49 | exact sBGTo_x ho c_29 c_49)).sub1 ⟨rfl, rfl, rfl, trivial⟩ rfl) | (exact (ih_4 _ (by omega) (k + 1) (some e) rfl (by first | omega | assumption | rfl) (by first | exact sBGTo_0 ho c_29 | exact sBGTo_n ho c_29 | exact sBGTo_y ho c_29 c_49 | exact sBGTo_x ho c_29 c_49)).sub1 ⟨rfl, rfl, rfl, trivial⟩ rfl) | (exact (ih_4 _ (by omega) (k + 1) o rfl (by first | omega | assumption | rfl) (by first | exact sBGTo_0 ho c_29 | exact sBGTo_n ho c_29 | exact sBGTo_y ho c_29 c_49 | exact sBGTo_x ho c_29 c_49)).sub1 ⟨rfl, rfl, rfl, trivial⟩ rfl)
        · try subst c_34
          obtain ⟨e, rfl⟩ := Option.ne_none_iff_exists'.mp c_34
          rw [show oI (some e) = nI e from rfl]
          have hek := sBGTo_lt ho.symm
          refine ev_aload_n dX10_bestGiver_37 rfl rfl ?_
          refine ev_getfield dX10_bestGiver_38 fl_X10_19 (by first | assumption | omega | exact ePp.ob (by assumption) | exact eNm.ob (by assumption) | exact eRg.ob (by assumption) | exact eTx.ob (by assumption) | exact ePa.ob (by assumption) | exact eSe.ob (by assumption) | exact eSl.ob (by assumption)) rfl ?_
          refine ev_getfield dX10_bestGiver_41 fl_X10_100 (by first | assumption | omega | exact ePp.ob (by assumption) | exact eNm.ob (by assumption) | exact eRg.ob (by assumption) | exact eTx.ob (by assumption) | exact ePa.ob (by assumption) | exact eSe.ob (by assumption) | exact eSl.ob (by assumption)) rfl ?_
          refine ev_iload_n dX10_bestGiver_44 rfl rfl ?_
          refine ev_iload_n dX10_bestGiver_45 rfl rfl ?_
          refine ev_callVi dX10_bestGiver_46 (c_X2_sticksBetter oN hB (by omega) (by omega)) rfl lk_X10_296 (by first | assumption | omega | exact ePp.ob (by assumption) | exact eNm.ob (by assumption) | exact eRg.ob (by assumption) | exact eTx.ob (by assumption) | exact ePa.ob (by assumption) | exact eSe.ob (by assumption) | exact eSl.ob (by assumption)) ⟨Nat.le_of_ble_eq_true rfl, Nat.le_of_ble_eq_true rfl⟩ rfl (Nat.le_of_ble_eq_true rfl) ⟨by first | exact Nat.le_of_ble_eq_true rfl | omega, by first | exact Nat.le_of_ble_eq_true rfl | omega⟩ (eRo ?_)
          first | ((with_reducible show eV _ _ _ (Value.int (bI _) :: _) _ _ _ _); refine ev_if_eqB (tgt := 54) dX10_bestGiver_49 (by decide) (fun c_49 => ?_) (fun c_49 => ?_)) | ((with_reducible show eV _ _ _ (Value.int (nI _) :: _) _ _ _ _); refine ev_if_eqN (tgt := 54) dX10_bestGiver_49 (by decide) (by first | exact hB _ _ | omega | exact Nat.lt_of_le_of_lt (cnt_le _ _) (by omega)) (fun c_49 => ?_) (fun c_49 => ?_)) | (refine ev_if_eqZ (tgt := 54) dX10_bestGiver_49 (by decide) (fun c_49 => ?_) (fun c_49 => ?_))
          · first | refine ev_iincN dX10_bestGiver_54 rfl (Nat.le_of_ble_eq_true rfl) ?_ | refine ev_iinc dX10_bestGiver_54 rfl rfl (Nat.le_of_ble_eq_true rfl) ?_
            refine ev_goto (tgt := 4) dX10_bestGiver_57 (by decide) ?_
            first | (exact (ih_4 _ (by omega) (k + 1) (some k) rfl (by first | omega | assumption | rfl) (by first | exact sBGTo_0 ho c_29 | exact sBGTo_n ho c_29 | exact sBGTo_y ho c_29 c_49 | exact sBGTo_x ho c_29 c_49)).sub1 ⟨rfl, rfl, rfl, trivial⟩ rfl) | (exact (ih_4 _ (by omega) (k + 1) none rfl (by first | omega | assumption | rfl) (by first | exact sBGTo_0 ho c_29 | exact sBGTo_n ho c_29 | exact sBGTo_y ho c_29 c_49 | exact sBGTo_x ho c_29 c_49)).sub1 ⟨rfl, rfl, rfl, trivial⟩ rfl) | (exact (ih_4 _ (by omega) (k + 1) (some e) rfl (by first | omega | assumption | rfl) (by first | exact sBGTo_0 ho c_29 | exact sBGTo_n ho c_29 | exact sBGTo_y ho c_29 c_49 | exact sBGTo_x ho c_29 c_49)).sub1 ⟨rfl, rfl, rfl, trivial⟩ rfl) | (exact (ih_4 _ (by omega) (k + 1) o rfl (by first | omega | assumption | rfl) (by first | exact sBGTo_0 ho c_29 | exact sBGTo_n ho c_29 | exact sBGTo_y ho c_29 c_49 | exact sBGTo_x ho c_29 c_49)).sub1 ⟨rfl, rfl, rfl, trivial⟩ rfl)
          · refine ev_iload_n dX10_bestGiver_52 rfl rfl ?_
            refine ev_istore_n dX10_bestGiver_53 rfl (Nat.le_of_ble_eq_true rfl) ?_
            first | refine ev_iincN dX10_bestGiver_54 rfl (Nat.le_of_ble_eq_true rfl) ?_ | refine ev_iinc dX10_bestGiver_54 rfl rfl (Nat.le_of_ble_eq_true rfl) ?_
            refine ev_goto (tgt := 4) dX10_bestGiver_57 (by decide) ?_
            first | (exact (ih_4 _ (by omega) (k + 1) (some k) rfl (by first | omega | assumption | rfl) (by first | exact sBGTo_0 ho c_29 | exact sBGTo_n ho c_29 | exact sBGTo_y ho c_29 c_49 | exact sBGTo_x ho c_29 c_49)).sub1 ⟨rfl, rfl, rfl, trivial⟩ rfl) | (exact (ih_4 _ (by omega) (k + 1) none rfl (by first | omega | assumption | rfl) (by first | exact sBGTo_0 ho c_29 | exact sBGTo_n ho c_29 | exact sBGTo_y ho c_29 c_49 | exact sBGTo_x ho c_29 c_49)).sub1 ⟨rfl, rfl, rfl, trivial⟩ rfl) | (exact (ih_4 _ (by omega) (k + 1) (some e) rfl (by first | omega | assumption | rfl) (by first | exact sBGTo_0 ho c_29 | exact sBGTo_n ho c_29 | exact sBGTo_y ho c_29 c_49 | exact sBGTo_x ho c_29 c_49)).sub1 ⟨rfl, rfl, rfl, trivial⟩ rfl) | (exact (ih_4 _ (by omega) (k + 1) o rfl (by first | omega | assumption | rfl) (by first | exact sBGTo_0 ho c_29 | exact sBGTo_n ho c_29 | exact sBGTo_y ho c_29 c_49 | exact sBGTo_x ho c_29 c_49)).sub1 ⟨rfl, rfl, rfl, trivial⟩ rfl)
  exact (H_4 _ 0 none rfl (by first | omega | assumption | rfl) (by first | omega | assumption | rfl)).sub1 ⟨rfl, rfl, rfl, trivial⟩ rfl
set_option maxHeartbeats 4000000 in
set_option maxRecDepth 20000 in
theorem c_X10_mixed {h : eH} {n b ℓ c : Nat} {σ : St} {x : Nat → Nat} {τ τs : Nat → St} {us : Nat → Nat} (hO : eNB h b σ x ℓ c τ us τs) (hK : eOK σ) : kX10_mixed [.ref b] h n (.inl (some (.int (oI (sMixed σ)))), (· = h), some n) 0 0 := by
  refine eM.of RX10 "mixed" [(0, .ref b)] pn_X10 rfl rfl (Nat.le_of_ble_eq_true rfl) rfl ?_
  obtain ⟨o0, -, oR, -⟩ := id hO
  obtain ⟨r0, oPp, oN, oSt⟩ := id oR
  obtain ⟨p0, p1, p2, p3, p4, p5⟩ := id oPp
  have hB : eB σ := hK.1
  have hz := hK.2.1
  refine ev_iconst (v := -1) dX10_mixed_0 (by decide) ?_
  refine ev_istore_n dX10_mixed_1 rfl (Nat.le_of_ble_eq_true rfl) ?_
  refine ev_iconst (v := nI 0) dX10_mixed_2 rfl ?_
  refine ev_istore_n dX10_mixed_3 rfl (Nat.le_of_ble_eq_true rfl) ?_
  have H_4 : ∀ (d_4 : Nat) (k : Nat) (o : Option Nat), d_4 = σ 0 0 - k → (k ≤ σ 0 0) → (o = sMixTo σ k) → eV mX10_mixed 4 [(0, .ref b), (1, .int (oI o)), (2, .int (nI k))] [] (h, n, 0, 0) (.inl (some (.int (oI (sMixed σ)))), (· = h), some n) 0 0 := by
    intro d_4
    induction d_4 using Nat.strongRecOn with
    | _ d_4 ih_4 =>
    intro k o hd_4 hk ho
    refine ev_iload_n dX10_mixed_4 rfl rfl ?_
    refine ev_aload_n dX10_mixed_5 rfl rfl ?_
    refine ev_getfield dX10_mixed_6 fl_X10_19 (by first | assumption | omega | exact ePp.ob (by assumption) | exact eNm.ob (by assumption) | exact eRg.ob (by assumption) | exact eTx.ob (by assumption) | exact ePa.ob (by assumption) | exact eSe.ob (by assumption) | exact eSl.ob (by assumption)) rfl ?_
    refine ev_getfield dX10_mixed_9 fl_X10_91 (by first | assumption | omega | exact ePp.ob (by assumption) | exact eNm.ob (by assumption) | exact eRg.ob (by assumption) | exact eTx.ob (by assumption) | exact ePa.ob (by assumption) | exact eSe.ob (by assumption) | exact eSl.ob (by assumption)) rfl ?_
    refine ev_getfield dX10_mixed_12 fl_X10_95 (by first | assumption | omega | exact ePp.ob (by assumption) | exact eNm.ob (by assumption) | exact eRg.ob (by assumption) | exact eTx.ob (by assumption) | exact ePa.ob (by assumption) | exact eSe.ob (by assumption) | exact eSl.ob (by assumption)) rfl ?_
    first | ((with_reducible show eV _ _ _ (Value.int (nI _) :: Value.int (nI _) :: _) _ _ _ _); refine ev_icmp_geN (tgt := 62) dX10_mixed_15 (by decide) (by first | exact hB _ _ | omega) (by first | exact hB _ _ | omega) (fun c_15 => ?_) (fun c_15 => ?_)) | ((with_reducible show eV _ _ _ (Value.int (nI _) :: _) _ _ _ _); refine ev_icmp_geZN (tgt := 62) dX10_mixed_15 (by decide) (by first | exact hB _ _ | omega) (fun c_15 => ?_) (fun c_15 => ?_)) | ((with_reducible show eV _ _ _ (_ :: Value.int (nI _) :: _) _ _ _ _); refine ev_icmp_geNZ (tgt := 62) dX10_mixed_15 (by decide) (by first | exact hB _ _ | omega) (fun c_15 => ?_) (fun c_15 => ?_)) | (refine ev_icmp_geZZ (tgt := 62) dX10_mixed_15 (by decide) (fun c_15 => ?_) (fun c_15 => ?_))
    · refine ev_iload_n dX10_mixed_62 rfl rfl ?_
      exact ev_iret dX10_mixed_63 rfl rfl (by first | exact congrArg (fun o => Sum.inl (some (Value.int (oI o)))) (by have e : k = σ 0 0 := (by omega); rw [sMixed, ho, ← e])) (by rfl) (fun _ e => Option.some.inj e) (Nat.le_of_ble_eq_true rfl) (Nat.le_of_ble_eq_true rfl)
    · refine ev_aload_n dX10_mixed_18 rfl rfl ?_
      refine ev_getfield dX10_mixed_19 fl_X10_19 (by first | assumption | omega | exact ePp.ob (by assumption) | exact eNm.ob (by assumption) | exact eRg.ob (by assumption) | exact eTx.ob (by assumption) | exact ePa.ob (by assumption) | exact eSe.ob (by assumption) | exact eSl.ob (by assumption)) rfl ?_
      refine ev_getfield dX10_mixed_22 fl_X10_91 (by first | assumption | omega | exact ePp.ob (by assumption) | exact eNm.ob (by assumption) | exact eRg.ob (by assumption) | exact eTx.ob (by assumption) | exact ePa.ob (by assumption) | exact eSe.ob (by assumption) | exact eSl.ob (by assumption)) rfl ?_
      refine ev_getfield dX10_mixed_25 fl_X10_157 (by first | assumption | omega | exact ePp.ob (by assumption) | exact eNm.ob (by assumption) | exact eRg.ob (by assumption) | exact eTx.ob (by assumption) | exact ePa.ob (by assumption) | exact eSe.ob (by assumption) | exact eSl.ob (by assumption)) rfl ?_
      refine ev_iload_n dX10_mixed_28 rfl rfl ?_
      refine ev_ialoadA dX10_mixed_29 (by first | assumption | omega | exact ePp.ob (by assumption) | exact eNm.ob (by assumption) | exact eRg.ob (by assumption) | exact eTx.ob (by assumption) | exact ePa.ob (by assumption) | exact eSe.ob (by assumption) | exact eSl.ob (by assumption)) (by first | assumption | omega | exact ePp.ob (by assumption) | exact eNm.ob (by assumption) | exact eRg.ob (by assumption) | exact eTx.ob (by assumption) | exact ePa.ob (by assumption) | exact eSe.ob (by assumption) | exact eSl.ob (by assumption)) ?_
      refine ev_iload_n dX10_mixed_30 rfl rfl ?_
      refine ev_iconst (v := -1) dX10_mixed_31 (by decide) ?_
      first | ((with_reducible show eV _ _ _ (Value.int (nI _) :: Value.int (nI _) :: _) _ _ _ _); refine ev_icmp_neN (tgt := 39) dX10_mixed_32 (by decide) (by first | exact hB _ _ | omega) (by first | exact hB _ _ | omega) (fun c_32 => ?_) (fun c_32 => ?_)) | ((with_reducible show eV _ _ _ (Value.int (-1) :: Value.int (oI _) :: _) _ _ _ _); refine ev_icmp_neO (tgt := 39) dX10_mixed_32 (by decide) (by (intro k9 h9; have := sMixTo_lt (ho ▸ h9); omega)) (fun c_32 => ?_) (fun c_32 => ?_)) | ((with_reducible show eV _ _ _ (Value.int (nI _) :: Value.int (oI _) :: _) _ _ _ _); refine ev_icmp_neON (tgt := 39) dX10_mixed_32 (by decide) (by first | exact hB _ _ | omega) (by (intro k9 h9; have := sMixTo_lt (ho ▸ h9); omega)) (fun c_32 => ?_) (fun c_32 => ?_)) | ((with_reducible show eV _ _ _ (Value.int (nI _) :: _) _ _ _ _); refine ev_icmp_neZN (tgt := 39) dX10_mixed_32 (by decide) (by first | exact hB _ _ | omega) (fun c_32 => ?_) (fun c_32 => ?_)) | ((with_reducible show eV _ _ _ (_ :: Value.int (nI _) :: _) _ _ _ _); refine ev_icmp_neNZ (tgt := 39) dX10_mixed_32 (by decide) (by first | exact hB _ _ | omega) (fun c_32 => ?_) (fun c_32 => ?_)) | (refine ev_icmp_neZZ (tgt := 39) dX10_mixed_32 (by decide) (fun c_32 => ?_) (fun c_32 => ?_))
      · try subst c_32
        obtain ⟨e, rfl⟩ := Option.ne_none_iff_exists'.mp c_32
        rw [show oI (some e) = nI e from rfl]
        have hek := sMixTo_lt ho.symm
        refine ev_aload_n dX10_mixed_39 rfl rfl ?_
        refine ev_getfield dX10_mixed_40 fl_X10_19 (by first | assumption | omega | exact ePp.ob (by assumption) | exact eNm.ob (by assumption) | exact eRg.ob (by assumption) | exact eTx.ob (by assumption) | exact ePa.ob (by assumption) | exact eSe.ob (by assumption) | exact eSl.ob (by assumption)) rfl ?_
        refine ev_getfield dX10_mixed_43 fl_X10_91 (by first | assumption | omega | exact ePp.ob (by assumption) | exact eNm.ob (by assumption) | exact eRg.ob (by assumption) | exact eTx.ob (by assumption) | exact ePa.ob (by assumption) | exact eSe.ob (by assumption) | exact eSl.ob (by assumption)) rfl ?_
        refine ev_getfield dX10_mixed_46 fl_X10_157 (by first | assumption | omega | exact ePp.ob (by assumption) | exact eNm.ob (by assumption) | exact eRg.ob (by assumption) | exact eTx.ob (by assumption) | exact ePa.ob (by assumption) | exact eSe.ob (by assumption) | exact eSl.ob (by assumption)) rfl ?_
        refine ev_iload_n dX10_mixed_49 rfl rfl ?_
        refine ev_ialoadA dX10_mixed_50 (by first | assumption | omega | exact ePp.ob (by assumption) | exact eNm.ob (by assumption) | exact eRg.ob (by assumption) | exact eTx.ob (by assumption) | exact ePa.ob (by assumption) | exact eSe.ob (by assumption) | exact eSl.ob (by assumption)) (by first | assumption | omega | exact ePp.ob (by assumption) | exact eNm.ob (by assumption) | exact eRg.ob (by assumption) | exact eTx.ob (by assumption) | exact ePa.ob (by assumption) | exact eSe.ob (by assumption) | exact eSl.ob (by assumption)) ?_
        first | ((with_reducible show eV _ _ _ (Value.int (nI _) :: Value.int (nI _) :: _) _ _ _ _); refine ev_icmp_leN (tgt := 56) dX10_mixed_51 (by decide) (by first | exact hB _ _ | omega) (by first | exact hB _ _ | omega) (fun c_51 => ?_) (fun c_51 => ?_)) | ((with_reducible show eV _ _ _ (Value.int (nI _) :: _) _ _ _ _); refine ev_icmp_leZN (tgt := 56) dX10_mixed_51 (by decide) (by first | exact hB _ _ | omega) (fun c_51 => ?_) (fun c_51 => ?_)) | ((with_reducible show eV _ _ _ (_ :: Value.int (nI _) :: _) _ _ _ _); refine ev_icmp_leNZ (tgt := 56) dX10_mixed_51 (by decide) (by first | exact hB _ _ | omega) (fun c_51 => ?_) (fun c_51 => ?_)) | (refine ev_icmp_leZZ (tgt := 56) dX10_mixed_51 (by decide) (fun c_51 => ?_) (fun c_51 => ?_))
        · first | refine ev_iincN dX10_mixed_56 rfl (Nat.le_of_ble_eq_true rfl) ?_ | refine ev_iinc dX10_mixed_56 rfl rfl (Nat.le_of_ble_eq_true rfl) ?_
          refine ev_goto (tgt := 4) dX10_mixed_59 (by decide) ?_
          first | (exact (ih_4 _ (by omega) (k + 1) (some k) rfl (by first | omega | assumption | rfl) (by first | exact sMixTo_n0 ho (by omega) | exact sMixTo_n1 ho (by omega) | exact sMixTo_s0 ho (by omega) | exact sMixTo_s1 ho (by omega))).sub1 ⟨rfl, rfl, rfl, trivial⟩ rfl) | (exact (ih_4 _ (by omega) (k + 1) none rfl (by first | omega | assumption | rfl) (by first | exact sMixTo_n0 ho (by omega) | exact sMixTo_n1 ho (by omega) | exact sMixTo_s0 ho (by omega) | exact sMixTo_s1 ho (by omega))).sub1 ⟨rfl, rfl, rfl, trivial⟩ rfl) | (exact (ih_4 _ (by omega) (k + 1) (some e) rfl (by first | omega | assumption | rfl) (by first | exact sMixTo_n0 ho (by omega) | exact sMixTo_n1 ho (by omega) | exact sMixTo_s0 ho (by omega) | exact sMixTo_s1 ho (by omega))).sub1 ⟨rfl, rfl, rfl, trivial⟩ rfl)
        · refine ev_iload_n dX10_mixed_54 rfl rfl ?_
          refine ev_istore_n dX10_mixed_55 rfl (Nat.le_of_ble_eq_true rfl) ?_
          first | refine ev_iincN dX10_mixed_56 rfl (Nat.le_of_ble_eq_true rfl) ?_ | refine ev_iinc dX10_mixed_56 rfl rfl (Nat.le_of_ble_eq_true rfl) ?_
          refine ev_goto (tgt := 4) dX10_mixed_59 (by decide) ?_
          first | (exact (ih_4 _ (by omega) (k + 1) (some k) rfl (by first | omega | assumption | rfl) (by first | exact sMixTo_n0 ho (by omega) | exact sMixTo_n1 ho (by omega) | exact sMixTo_s0 ho (by omega) | exact sMixTo_s1 ho (by omega))).sub1 ⟨rfl, rfl, rfl, trivial⟩ rfl) | (exact (ih_4 _ (by omega) (k + 1) none rfl (by first | omega | assumption | rfl) (by first | exact sMixTo_n0 ho (by omega) | exact sMixTo_n1 ho (by omega) | exact sMixTo_s0 ho (by omega) | exact sMixTo_s1 ho (by omega))).sub1 ⟨rfl, rfl, rfl, trivial⟩ rfl) | (exact (ih_4 _ (by omega) (k + 1) (some e) rfl (by first | omega | assumption | rfl) (by first | exact sMixTo_n0 ho (by omega) | exact sMixTo_n1 ho (by omega) | exact sMixTo_s0 ho (by omega) | exact sMixTo_s1 ho (by omega))).sub1 ⟨rfl, rfl, rfl, trivial⟩ rfl)
      · try subst c_32
        refine ev_iconst (v := nI 0) dX10_mixed_35 rfl ?_
        refine ev_goto (tgt := 51) dX10_mixed_36 (by decide) ?_
        first | ((with_reducible show eV _ _ _ (Value.int (nI _) :: Value.int (nI _) :: _) _ _ _ _); refine ev_icmp_leN (tgt := 56) dX10_mixed_51 (by decide) (by first | exact hB _ _ | omega) (by first | exact hB _ _ | omega) (fun c_51 => ?_) (fun c_51 => ?_)) | ((with_reducible show eV _ _ _ (Value.int (nI _) :: _) _ _ _ _); refine ev_icmp_leZN (tgt := 56) dX10_mixed_51 (by decide) (by first | exact hB _ _ | omega) (fun c_51 => ?_) (fun c_51 => ?_)) | ((with_reducible show eV _ _ _ (_ :: Value.int (nI _) :: _) _ _ _ _); refine ev_icmp_leNZ (tgt := 56) dX10_mixed_51 (by decide) (by first | exact hB _ _ | omega) (fun c_51 => ?_) (fun c_51 => ?_)) | (refine ev_icmp_leZZ (tgt := 56) dX10_mixed_51 (by decide) (fun c_51 => ?_) (fun c_51 => ?_))
        · first | refine ev_iincN dX10_mixed_56 rfl (Nat.le_of_ble_eq_true rfl) ?_ | refine ev_iinc dX10_mixed_56 rfl rfl (Nat.le_of_ble_eq_true rfl) ?_
          refine ev_goto (tgt := 4) dX10_mixed_59 (by decide) ?_
          first | (exact (ih_4 _ (by omega) (k + 1) (some k) rfl (by first | omega | assumption | rfl) (by first | exact sMixTo_n0 ho (by omega) | exact sMixTo_n1 ho (by omega) | exact sMixTo_s0 ho (by omega) | exact sMixTo_s1 ho (by omega))).sub1 ⟨rfl, rfl, rfl, trivial⟩ rfl) | (exact (ih_4 _ (by omega) (k + 1) none rfl (by first | omega | assumption | rfl) (by first | exact sMixTo_n0 ho (by omega) | exact sMixTo_n1 ho (by omega) | exact sMixTo_s0 ho (by omega) | exact sMixTo_s1 ho (by omega))).sub1 ⟨rfl, rfl, rfl, trivial⟩ rfl) | (exact (ih_4 _ (by omega) (k + 1) (some e) rfl (by first | omega | assumption | rfl) (by first | exact sMixTo_n0 ho (by omega) | exact sMixTo_n1 ho (by omega) | exact sMixTo_s0 ho (by omega) | exact sMixTo_s1 ho (by omega))).sub1 ⟨rfl, rfl, rfl, trivial⟩ rfl)
        · refine ev_iload_n dX10_mixed_54 rfl rfl ?_
          refine ev_istore_n dX10_mixed_55 rfl (Nat.le_of_ble_eq_true rfl) ?_
          first | refine ev_iincN dX10_mixed_56 rfl (Nat.le_of_ble_eq_true rfl) ?_ | refine ev_iinc dX10_mixed_56 rfl rfl (Nat.le_of_ble_eq_true rfl) ?_
          refine ev_goto (tgt := 4) dX10_mixed_59 (by decide) ?_
          first | (exact (ih_4 _ (by omega) (k + 1) (some k) rfl (by first | omega | assumption | rfl) (by first | exact sMixTo_n0 ho (by omega) | exact sMixTo_n1 ho (by omega) | exact sMixTo_s0 ho (by omega) | exact sMixTo_s1 ho (by omega))).sub1 ⟨rfl, rfl, rfl, trivial⟩ rfl) | (exact (ih_4 _ (by omega) (k + 1) none rfl (by first | omega | assumption | rfl) (by first | exact sMixTo_n0 ho (by omega) | exact sMixTo_n1 ho (by omega) | exact sMixTo_s0 ho (by omega) | exact sMixTo_s1 ho (by omega))).sub1 ⟨rfl, rfl, rfl, trivial⟩ rfl) | (exact (ih_4 _ (by omega) (k + 1) (some e) rfl (by first | omega | assumption | rfl) (by first | exact sMixTo_n0 ho (by omega) | exact sMixTo_n1 ho (by omega) | exact sMixTo_s0 ho (by omega) | exact sMixTo_s1 ho (by omega))).sub1 ⟨rfl, rfl, rfl, trivial⟩ rfl)
  exact (H_4 _ 0 none rfl (by first | omega | assumption | rfl) (by first | omega | assumption | rfl)).sub1 ⟨rfl, rfl, rfl, trivial⟩ rfl
def sGrp (s m i : Nat) : Nat := s / 1000000 ^ (m - 1 - i) % 1000000
def sScr (σ : St) (s m : Nat) : Nat → St
  | 0 => σ
  | i + 1 => (sRun (sScr σ s m i) (sGrp s m i)).1
def sScrQ (σ : St) (s m : Nat) : Option Nat := fst (fun i => !(sRun (sScr σ s m i) (sGrp s m i)).2) m
theorem sGrp_lt (s m i : Nat) : sGrp s m i < 2 ^ 31 := Nat.lt_trans (Nat.mod_lt _ (by decide)) (by decide)
theorem eIv.scr {σ : St} {T s m : Nat} (h : eIv σ T) : ∀ i, eIv (sScr σ s m i) (T + i)
  | 0 => h
  | i + 1 => (h.scr i).run
theorem eNB.trial {h g : eH} {b ℓ c : Nat} {σ ρ : St} {x : Nat → Nat} {τ τs : Nat → St} {us : Nat → Nat} (hO : eNB h b σ x ℓ c τ us τs) (hR : eRg g (b + 21) ρ) (hF : eFr h g (b + 21) (b + 38)) : eNB g b σ x ℓ c τ us τs := by
  obtain ⟨o0, ⟨k0, u0, oT, hsm⟩, oR, -, ⟨f0, oP⟩, oS, ⟨wt, oW⟩⟩ := hO
  exact ⟨(hF _ (by omega)).trans o0, ⟨k0, u0, oT.fr (fun a _ _ => hF a (by omega)), hsm⟩, oR.fr (fun a _ _ => hF a (by omega)), ⟨ρ, hR⟩, ⟨f0, oP.fr (fun a _ _ => hF a (by omega))⟩, oS.fr (fun a _ _ => hF a (by omega)), ⟨wt, oW.fr (fun a _ _ => hF a (by omega))⟩⟩
set_option maxHeartbeats 4000000 in
set_option maxRecDepth 20000 in
theorem c_X10_runScript {h : eH} {n b ℓ c m s T : Nat} {σ : St} {x : Nat → Nat} {τ τs : Nat → St} {us : Nat → Nat} (hO : eNB h b σ x ℓ c τ us τs) (hI : eIv σ T) (hT : T < 2 ^ 29) (hm : 1 ≤ m ∧ m ≤ 3) (hs : s < 1000000 ^ m) : kX10_runScript [.ref b, .int (nI m), .long (lN s)] h n (.inl (some (.int (oI (sScrQ σ s m)))), (fun g => eNB g b σ x ℓ c τ us τs ∧ eFr h g b (b + 317)), some n) 0 0 := by
  refine eM.of RX10 "runScript" [(0, .ref b), (1, .int (nI m)), (2, .long (lN s))] pn_X10 rfl rfl (Nat.le_of_ble_eq_true rfl) rfl ?_
  have hm3 : 1000000 ^ m ≤ 1000000 ^ 3 := Nat.pow_le_pow_right (by decide) hm.2
  have hs63 : s < 2 ^ 63 := Nat.lt_of_lt_of_le hs (Nat.le_trans hm3 (by decide))
  have hm63 : 1000000 ^ m < 2 ^ 63 := Nat.lt_of_le_of_lt hm3 (by decide)
  obtain ⟨o0, -, oR, ⟨ρ, oR2⟩, -⟩ := id hO
  have FR : eFr h h (b + 21) (b + 38) := eFr.rf
  refine ev_iload_n dX10_runScript_0 rfl rfl ?_
  refine ev_iconst (v := nI 1) dX10_runScript_1 rfl ?_
  first | ((with_reducible show eV _ _ _ (Value.int (nI _) :: Value.int (nI _) :: _) _ _ _ _); refine ev_icmp_ltN (tgt := 10) dX10_runScript_2 (by decide) (by omega) (by omega) (fun c_2 => ?_) (fun c_2 => ?_)) | ((with_reducible show eV _ _ _ (Value.int (nI _) :: _) _ _ _ _); refine ev_icmp_ltZN (tgt := 10) dX10_runScript_2 (by decide) (by omega) (fun c_2 => ?_) (fun c_2 => ?_)) | ((with_reducible show eV _ _ _ (_ :: Value.int (nI _) :: _) _ _ _ _); refine ev_icmp_ltNZ (tgt := 10) dX10_runScript_2 (by decide) (by omega) (fun c_2 => ?_) (fun c_2 => ?_)) | (refine ev_icmp_ltZZ (tgt := 10) dX10_runScript_2 (by decide) (fun c_2 => ?_) (fun c_2 => ?_))
  · exact absurd hm (by omega)
  · refine ev_iload_n dX10_runScript_5 rfl rfl ?_
    refine ev_iconst (v := nI 3) dX10_runScript_6 rfl ?_
    first | ((with_reducible show eV _ _ _ (Value.int (nI _) :: Value.int (nI _) :: _) _ _ _ _); refine ev_icmp_leN (tgt := 21) dX10_runScript_7 (by decide) (by omega) (by omega) (fun c_7 => ?_) (fun c_7 => ?_)) | ((with_reducible show eV _ _ _ (Value.int (nI _) :: _) _ _ _ _); refine ev_icmp_leZN (tgt := 21) dX10_runScript_7 (by decide) (by omega) (fun c_7 => ?_) (fun c_7 => ?_)) | ((with_reducible show eV _ _ _ (_ :: Value.int (nI _) :: _) _ _ _ _); refine ev_icmp_leNZ (tgt := 21) dX10_runScript_7 (by decide) (by omega) (fun c_7 => ?_) (fun c_7 => ?_)) | (refine ev_icmp_leZZ (tgt := 21) dX10_runScript_7 (by decide) (fun c_7 => ?_) (fun c_7 => ?_))
    · refine ev_lload_n dX10_runScript_21 rfl rfl ?_
      refine ev_lconst (v := lN 0) dX10_runScript_22 rfl ?_
      refine ev_lcmp dX10_runScript_23 ?_
      first | ((with_reducible show eV _ _ _ (Value.int (nI _) :: _) _ _ _ _); refine ev_if_ltN (tgt := 36) dX10_runScript_24 (by decide) (by omega) ?_) | (refine ev_if_ltZ (tgt := 36) dX10_runScript_24 (by decide) (fun c_24 => ?_) (fun c_24 => ?_))
      · exact absurd c_24 (by rw [lgZ, lN_Z hs63, lN_Z (by decide)]; omega)
      · refine ev_lload_n dX10_runScript_27 rfl rfl ?_
        refine ev_iload_n dX10_runScript_28 rfl rfl ?_
        refine ev_callSi dX10_runScript_29 (c_X6_beyond (by omega)) lk_X10_301 ⟨Nat.le_of_ble_eq_true rfl, Nat.le_of_ble_eq_true rfl⟩ rfl (Nat.le_of_ble_eq_true rfl) ⟨by first | exact Nat.le_of_ble_eq_true rfl | omega, by first | exact Nat.le_of_ble_eq_true rfl | omega⟩ (eRo ?_)
        refine ev_lcmp dX10_runScript_32 ?_
        first | ((with_reducible show eV _ _ _ (Value.int (nI _) :: _) _ _ _ _); refine ev_if_ltN (tgt := 47) dX10_runScript_33 (by decide) (by omega) ?_) | (refine ev_if_ltZ (tgt := 47) dX10_runScript_33 (by decide) (fun c_33 => ?_) (fun c_33 => ?_))
        · refine ev_aload_n dX10_runScript_47 rfl rfl ?_
          refine ev_getfield dX10_runScript_48 fl_X10_23 (by first | assumption | omega | exact ePp.ob (by assumption) | exact eNm.ob (by assumption) | exact eRg.ob (by assumption) | exact eTx.ob (by assumption) | exact ePa.ob (by assumption) | exact eSe.ob (by assumption) | exact eSl.ob (by assumption)) rfl ?_
          refine ev_aload_n dX10_runScript_51 rfl rfl ?_
          refine ev_getfield dX10_runScript_52 fl_X10_19 (by first | assumption | omega | exact ePp.ob (by assumption) | exact eNm.ob (by assumption) | exact eRg.ob (by assumption) | exact eTx.ob (by assumption) | exact ePa.ob (by assumption) | exact eSe.ob (by assumption) | exact eSl.ob (by assumption)) rfl ?_
          refine ev_callVv dX10_runScript_55 (c_X5_copyFrom oR oR2 (by omega)) rfl lk_X10_309 (by first | assumption | omega | exact ePp.ob (by assumption) | exact eNm.ob (by assumption) | exact eRg.ob (by assumption) | exact eTx.ob (by assumption) | exact ePa.ob (by assumption) | exact eSe.ob (by assumption) | exact eSl.ob (by assumption)) ⟨Nat.le_of_ble_eq_true rfl, Nat.le_of_ble_eq_true rfl⟩ rfl (Nat.le_of_ble_eq_true rfl) ⟨by first | exact Nat.le_of_ble_eq_true rfl | omega, by first | exact Nat.le_of_ble_eq_true rfl | omega⟩ (fun g_55 hg_55 => ?_)
          obtain ⟨w_55, fr_55⟩ := hg_55
          first | replace o0 := eArr.fr o0 (fr_55 _ (by omega)) | replace o0 := Eq.trans (fr_55 _ (by omega)) o0 | replace o0 := eBo.fr o0 (fr_55 _ (by omega)) | replace o0 := z_55 o0 | replace o0 := z_55 | replace o0 := ePp.fr1 o0 (fun a _ _ => fr_55 a (by omega)) | replace o0 := eNm.fr1 o0 (fun a _ _ => fr_55 a (by omega)) | replace o0 := eRg.fr o0 (fun a _ _ => fr_55 a (by omega)) | replace o0 := eTx.fr o0 (fun a _ _ => fr_55 a (by omega)) | replace o0 := ePa.fr o0 (fun a _ _ => fr_55 a (by omega)) | replace o0 := eRf.fr o0 (fr_55 _ (by omega)) | replace o0 := eSl.fr o0 (fun a _ _ => fr_55 a (by omega)) | replace o0 := eSe.fr o0 (fun a _ _ => fr_55 a (by omega))
          first | replace oR := eArr.fr oR (fr_55 _ (by omega)) | replace oR := Eq.trans (fr_55 _ (by omega)) oR | replace oR := eBo.fr oR (fr_55 _ (by omega)) | replace oR := z_55 oR | replace oR := z_55 | replace oR := ePp.fr1 oR (fun a _ _ => fr_55 a (by omega)) | replace oR := eNm.fr1 oR (fun a _ _ => fr_55 a (by omega)) | replace oR := eRg.fr oR (fun a _ _ => fr_55 a (by omega)) | replace oR := eTx.fr oR (fun a _ _ => fr_55 a (by omega)) | replace oR := ePa.fr oR (fun a _ _ => fr_55 a (by omega)) | replace oR := eRf.fr oR (fr_55 _ (by omega)) | replace oR := eSl.fr oR (fun a _ _ => fr_55 a (by omega)) | replace oR := eSe.fr oR (fun a _ _ => fr_55 a (by omega))
          replace oR2 := w_55
          first | replace FR := eFr.trans FR (eFr.one fr_55 (by omega) (by omega)) | replace FR := eFr.trans FR (eFr.wide fr_55 (by omega) (by omega))
          refine ev_iconst (v := nI 0) dX10_runScript_58 rfl ?_
          refine ev_istore dX10_runScript_59 (Nat.le_of_ble_eq_true rfl) ?_
          have H_61 : ∀ (d_61 : Nat) (i : Nat) (g : eH), d_61 = m - i → (i ≤ m) → (∀ j, j < i → (!(sRun (sScr σ s m j) (sGrp s m j)).2) = false) → (eRg g (b + 21) (sScr σ s m i)) → (eFr h g (b + 21) (b + 38)) → eV mX10_runScript 61 [(0, .ref b), (1, .int (nI m)), (2, .long (lN s)), (4, .int (nI i))] [] (g, n, 0, 0) (.inl (some (.int (oI (sScrQ σ s m)))), (fun g => eNB g b σ x ℓ c τ us τs ∧ eFr h g b (b + 317)), some n) 0 0 := by
            intro d_61
            induction d_61 using Nat.strongRecOn with
            | _ d_61 ih_61 =>
            intro i g hd_61 hi hn hg FR
            have o0 := (FR _ (by omega)).trans hO.1
            refine ev_iload dX10_runScript_61 rfl ?_
            refine ev_iload_n dX10_runScript_63 rfl rfl ?_
            first | ((with_reducible show eV _ _ _ (Value.int (nI _) :: Value.int (nI _) :: _) _ _ _ _); refine ev_icmp_geN (tgt := 93) dX10_runScript_64 (by decide) (by omega) (by omega) (fun c_64 => ?_) (fun c_64 => ?_)) | ((with_reducible show eV _ _ _ (Value.int (nI _) :: _) _ _ _ _); refine ev_icmp_geZN (tgt := 93) dX10_runScript_64 (by decide) (by omega) (fun c_64 => ?_) (fun c_64 => ?_)) | ((with_reducible show eV _ _ _ (_ :: Value.int (nI _) :: _) _ _ _ _); refine ev_icmp_geNZ (tgt := 93) dX10_runScript_64 (by decide) (by omega) (fun c_64 => ?_) (fun c_64 => ?_)) | (refine ev_icmp_geZZ (tgt := 93) dX10_runScript_64 (by decide) (fun c_64 => ?_) (fun c_64 => ?_))
            · refine ev_iconst (v := -1) dX10_runScript_93 (by decide) ?_
              exact ev_iret dX10_runScript_94 rfl rfl (by exact oRn (fst_none_of (fun j hj => hn j (by omega)))) (by exact ⟨hO.trial hg FR, FR.wide (by omega) (by omega)⟩) (fun _ e => Option.some.inj e) (Nat.le_of_ble_eq_true rfl) (Nat.le_of_ble_eq_true rfl)
            · refine ev_aload_n dX10_runScript_67 rfl rfl ?_
              refine ev_getfield dX10_runScript_68 fl_X10_23 (by first | assumption | omega | exact ePp.ob (by assumption) | exact eNm.ob (by assumption) | exact eRg.ob (by assumption) | exact eTx.ob (by assumption) | exact ePa.ob (by assumption) | exact eSe.ob (by assumption) | exact eSl.ob (by assumption)) rfl ?_
              refine ev_lload_n dX10_runScript_71 rfl rfl ?_
              refine ev_iload_n dX10_runScript_72 rfl rfl ?_
              refine ev_iload dX10_runScript_73 rfl ?_
              refine ev_callSi dX10_runScript_75 (c_X6_group hs63 hm.2 c_64) lk_X10_312 ⟨Nat.le_of_ble_eq_true rfl, Nat.le_of_ble_eq_true rfl⟩ rfl (Nat.le_of_ble_eq_true rfl) ⟨by first | exact Nat.le_of_ble_eq_true rfl | omega, by first | exact Nat.le_of_ble_eq_true rfl | omega⟩ (eRo ?_)
              refine ev_callSi dX10_runScript_78 (c_X6_succeeds hg (hI.scr i) (by omega) (sGrp_lt s m i)) lk_X10_316 ⟨Nat.le_of_ble_eq_true rfl, Nat.le_of_ble_eq_true rfl⟩ rfl (Nat.le_of_ble_eq_true rfl) ⟨by first | exact Nat.le_of_ble_eq_true rfl | omega, by first | exact Nat.le_of_ble_eq_true rfl | omega⟩ (fun g_78 hg_78 => ?_)
              obtain ⟨w_78, fr_78⟩ := hg_78
              first | replace o0 := eArr.fr o0 (fr_78 _ (by omega)) | replace o0 := Eq.trans (fr_78 _ (by omega)) o0 | replace o0 := eBo.fr o0 (fr_78 _ (by omega)) | replace o0 := z_78 o0 | replace o0 := z_78 | replace o0 := ePp.fr1 o0 (fun a _ _ => fr_78 a (by omega)) | replace o0 := eNm.fr1 o0 (fun a _ _ => fr_78 a (by omega)) | replace o0 := eRg.fr o0 (fun a _ _ => fr_78 a (by omega)) | replace o0 := eTx.fr o0 (fun a _ _ => fr_78 a (by omega)) | replace o0 := ePa.fr o0 (fun a _ _ => fr_78 a (by omega)) | replace o0 := eRf.fr o0 (fr_78 _ (by omega)) | replace o0 := eSl.fr o0 (fun a _ _ => fr_78 a (by omega)) | replace o0 := eSe.fr o0 (fun a _ _ => fr_78 a (by omega))
              replace hg := w_78
              first | replace FR := eFr.trans FR (eFr.one fr_78 (by omega) (by omega)) | replace FR := eFr.trans FR (eFr.wide fr_78 (by omega) (by omega))
              first | ((with_reducible show eV _ _ _ (Value.int (bI _) :: _) _ _ _ _); refine ev_if_neB (tgt := 87) dX10_runScript_81 (by decide) (fun c_81 => ?_) (fun c_81 => ?_)) | ((with_reducible show eV _ _ _ (Value.int (nI _) :: _) _ _ _ _); refine ev_if_neN (tgt := 87) dX10_runScript_81 (by decide) (by omega) (fun c_81 => ?_) (fun c_81 => ?_)) | (refine ev_if_neZ (tgt := 87) dX10_runScript_81 (by decide) (fun c_81 => ?_) (fun c_81 => ?_))
              · first | refine ev_iincN dX10_runScript_87 rfl (Nat.le_of_ble_eq_true rfl) ?_ | refine ev_iinc dX10_runScript_87 rfl rfl (Nat.le_of_ble_eq_true rfl) ?_
                refine ev_goto (tgt := 61) dX10_runScript_90 (by decide) ?_
                exact (ih_61 _ (by omega) (i + 1) _ rfl (by first | omega | assumption | rfl) (by exact fun j hj => (by rcases Nat.lt_or_ge j i with q | q; exact hn j q; have e : j = i := (by omega); rw [e, show (sRun (sScr σ s m i) (sGrp s m i)).2 = true from c_81]; rfl)) (by exact hg) (by first | omega | assumption | rfl)).sub1 ⟨rfl, rfl, rfl, rfl, trivial⟩ rfl
              · refine ev_iload dX10_runScript_84 rfl ?_
                exact ev_iret dX10_runScript_86 rfl rfl (by exact oRx (fst_of c_64 (by show (!(sRun (sScr σ s m i) (sGrp s m i)).2) = true; rw [show (sRun (sScr σ s m i) (sGrp s m i)).2 = false from c_81]; rfl) hn)) (by exact ⟨hO.trial hg FR, FR.wide (by omega) (by omega)⟩) (fun _ e => Option.some.inj e) (Nat.le_of_ble_eq_true rfl) (Nat.le_of_ble_eq_true rfl)
          exact (H_61 _ 0 g_55 rfl (by omega) (by exact fun j hj => absurd hj (Nat.not_lt_zero j)) (by exact oR2) (by assumption)).sub1 ⟨rfl, rfl, rfl, rfl, trivial⟩ rfl
        · exact absurd c_33 (by have := (lgZ (x := lN s) (y := lN (1000000 ^ m))).mpr (by rw [lN_Z hs63, lN_Z hm63]; omega); omega)
    · exact absurd hm (by omega)
set_option maxHeartbeats 4000000 in
set_option maxRecDepth 20000 in
theorem c_X10_runScript_1 {h : eH} {n b : Nat} {z : Int32} {y : Int64} (hz : ¬ (1 ≤ z.toInt ∧ z.toInt < (4 : Nat))) : kX10_runScript [.ref b, .int z, .long y] h n (.inr "java/lang/IllegalArgumentException", (· = h), none) 1 6 := by
  refine eM.of RX10 "runScript" [(0, .ref b), (1, .int z), (2, .long y)] pn_X10 rfl rfl (Nat.le_of_ble_eq_true rfl) rfl ?_
  refine ev_iload_n dX10_runScript_0 rfl rfl ?_
  refine ev_iconst (v := nI 1) dX10_runScript_1 rfl ?_
  first | ((with_reducible show eV _ _ _ (Value.int (nI _) :: Value.int (nI _) :: _) _ _ _ _); refine ev_icmp_ltN (tgt := 10) dX10_runScript_2 (by decide) (by first | exact hB _ _ | omega) (by first | exact hB _ _ | omega) (fun c_2 => ?_) (fun c_2 => ?_)) | ((with_reducible show eV _ _ _ (Value.int (nI _) :: _) _ _ _ _); refine ev_icmp_ltZN (tgt := 10) dX10_runScript_2 (by decide) (by first | exact hB _ _ | omega) (fun c_2 => ?_) (fun c_2 => ?_)) | ((with_reducible show eV _ _ _ (_ :: Value.int (nI _) :: _) _ _ _ _); refine ev_icmp_ltNZ (tgt := 10) dX10_runScript_2 (by decide) (by first | exact hB _ _ | omega) (fun c_2 => ?_) (fun c_2 => ?_)) | (refine ev_icmp_ltZZ (tgt := 10) dX10_runScript_2 (by decide) (fun c_2 => ?_) (fun c_2 => ?_))
  · exact ev_throwSW (text := "1 to 3 commands") dX10_runScript_10 dX10_runScript_13 dX10_runScript_14 dX10_runScript_17 dX10_runScript_20 (by decide +kernel) (by decide +kernel) wk_X10_47 wi_java_lang_IllegalArgumentException (by decide +kernel) th_X10_51 tg_X10_47_51 rfl (Nat.le_of_ble_eq_true rfl) (Nat.le_of_ble_eq_true rfl) (Nat.le_of_ble_eq_true rfl) (Nat.le_of_ble_eq_true rfl) rfl (by rfl)
  · refine ev_iload_n dX10_runScript_5 rfl rfl ?_
    refine ev_iconst (v := nI 3) dX10_runScript_6 rfl ?_
    first | ((with_reducible show eV _ _ _ (Value.int (nI _) :: Value.int (nI _) :: _) _ _ _ _); refine ev_icmp_leN (tgt := 21) dX10_runScript_7 (by decide) (by first | exact hB _ _ | omega) (by first | exact hB _ _ | omega) (fun c_7 => ?_) (fun c_7 => ?_)) | ((with_reducible show eV _ _ _ (Value.int (nI _) :: _) _ _ _ _); refine ev_icmp_leZN (tgt := 21) dX10_runScript_7 (by decide) (by first | exact hB _ _ | omega) (fun c_7 => ?_) (fun c_7 => ?_)) | ((with_reducible show eV _ _ _ (_ :: Value.int (nI _) :: _) _ _ _ _); refine ev_icmp_leNZ (tgt := 21) dX10_runScript_7 (by decide) (by first | exact hB _ _ | omega) (fun c_7 => ?_) (fun c_7 => ?_)) | (refine ev_icmp_leZZ (tgt := 21) dX10_runScript_7 (by decide) (fun c_7 => ?_) (fun c_7 => ?_))
    · exact absurd hz (by omega)
    · exact ev_throwSW (text := "1 to 3 commands") dX10_runScript_10 dX10_runScript_13 dX10_runScript_14 dX10_runScript_17 dX10_runScript_20 (by decide +kernel) (by decide +kernel) wk_X10_47 wi_java_lang_IllegalArgumentException (by decide +kernel) th_X10_51 tg_X10_47_51 rfl (Nat.le_of_ble_eq_true rfl) (Nat.le_of_ble_eq_true rfl) (Nat.le_of_ble_eq_true rfl) (Nat.le_of_ble_eq_true rfl) rfl (by rfl)
set_option maxHeartbeats 4000000 in
set_option maxRecDepth 20000 in
theorem c_X10_runScript_2 {h : eH} {n b m : Nat} {y : Int64} (hm : 1 ≤ m ∧ m ≤ 3) (hy : ¬ (0 ≤ y.toInt ∧ y.toInt < ((1000000 ^ m : Nat) : Int))) : kX10_runScript [.ref b, .int (nI m), .long y] h n (.inr "java/lang/IllegalArgumentException", (· = h), none) 1 6 := by
  refine eM.of RX10 "runScript" [(0, .ref b), (1, .int (nI m)), (2, .long y)] pn_X10 rfl rfl (Nat.le_of_ble_eq_true rfl) rfl ?_
  have hm3 : 1000000 ^ m ≤ 1000000 ^ 3 := Nat.pow_le_pow_right (by decide) hm.2
  have hm63 : 1000000 ^ m < 2 ^ 63 := Nat.lt_of_le_of_lt hm3 (by decide)
  refine ev_iload_n dX10_runScript_0 rfl rfl ?_
  refine ev_iconst (v := nI 1) dX10_runScript_1 rfl ?_
  first | ((with_reducible show eV _ _ _ (Value.int (nI _) :: Value.int (nI _) :: _) _ _ _ _); refine ev_icmp_ltN (tgt := 10) dX10_runScript_2 (by decide) (by omega) (by omega) (fun c_2 => ?_) (fun c_2 => ?_)) | ((with_reducible show eV _ _ _ (Value.int (nI _) :: _) _ _ _ _); refine ev_icmp_ltZN (tgt := 10) dX10_runScript_2 (by decide) (by omega) (fun c_2 => ?_) (fun c_2 => ?_)) | ((with_reducible show eV _ _ _ (_ :: Value.int (nI _) :: _) _ _ _ _); refine ev_icmp_ltNZ (tgt := 10) dX10_runScript_2 (by decide) (by omega) (fun c_2 => ?_) (fun c_2 => ?_)) | (refine ev_icmp_ltZZ (tgt := 10) dX10_runScript_2 (by decide) (fun c_2 => ?_) (fun c_2 => ?_))
  · exact absurd hm (by omega)
  · refine ev_iload_n dX10_runScript_5 rfl rfl ?_
    refine ev_iconst (v := nI 3) dX10_runScript_6 rfl ?_
    first | ((with_reducible show eV _ _ _ (Value.int (nI _) :: Value.int (nI _) :: _) _ _ _ _); refine ev_icmp_leN (tgt := 21) dX10_runScript_7 (by decide) (by omega) (by omega) (fun c_7 => ?_) (fun c_7 => ?_)) | ((with_reducible show eV _ _ _ (Value.int (nI _) :: _) _ _ _ _); refine ev_icmp_leZN (tgt := 21) dX10_runScript_7 (by decide) (by omega) (fun c_7 => ?_) (fun c_7 => ?_)) | ((with_reducible show eV _ _ _ (_ :: Value.int (nI _) :: _) _ _ _ _); refine ev_icmp_leNZ (tgt := 21) dX10_runScript_7 (by decide) (by omega) (fun c_7 => ?_) (fun c_7 => ?_)) | (refine ev_icmp_leZZ (tgt := 21) dX10_runScript_7 (by decide) (fun c_7 => ?_) (fun c_7 => ?_))
    · refine ev_lload_n dX10_runScript_21 rfl rfl ?_
      refine ev_lconst (v := lN 0) dX10_runScript_22 rfl ?_
      refine ev_lcmp dX10_runScript_23 ?_
      first | ((with_reducible show eV _ _ _ (Value.int (nI _) :: _) _ _ _ _); refine ev_if_ltN (tgt := 36) dX10_runScript_24 (by decide) (by omega) ?_) | (refine ev_if_ltZ (tgt := 36) dX10_runScript_24 (by decide) (fun c_24 => ?_) (fun c_24 => ?_))
      · exact ev_throwSW (text := "at most 6 digits for a command") dX10_runScript_36 dX10_runScript_39 dX10_runScript_40 dX10_runScript_43 dX10_runScript_46 (by decide +kernel) (by decide +kernel) wk_X10_47 wi_java_lang_IllegalArgumentException (by decide +kernel) th_X10_51 tg_X10_47_51 rfl (Nat.le_of_ble_eq_true rfl) (Nat.le_of_ble_eq_true rfl) (Nat.le_of_ble_eq_true rfl) (Nat.le_of_ble_eq_true rfl) rfl (by rfl)
      · refine ev_lload_n dX10_runScript_27 rfl rfl ?_
        refine ev_iload_n dX10_runScript_28 rfl rfl ?_
        refine ev_callSi dX10_runScript_29 (c_X6_beyond (by omega)) lk_X10_301 ⟨Nat.le_of_ble_eq_true rfl, Nat.le_of_ble_eq_true rfl⟩ rfl (Nat.le_of_ble_eq_true rfl) ⟨by first | exact Nat.le_of_ble_eq_true rfl | omega, by first | exact Nat.le_of_ble_eq_true rfl | omega⟩ (eRo ?_)
        refine ev_lcmp dX10_runScript_32 ?_
        first | ((with_reducible show eV _ _ _ (Value.int (nI _) :: _) _ _ _ _); refine ev_if_ltN (tgt := 47) dX10_runScript_33 (by decide) (by omega) ?_) | (refine ev_if_ltZ (tgt := 47) dX10_runScript_33 (by decide) (fun c_33 => ?_) (fun c_33 => ?_))
        · exact absurd hy (by have h1 := lgZ.mp c_33; have h2 := lN_Z hm63; have h3 : ¬ y.toInt < (lN 0).toInt := fun z => absurd (lgZ.mpr z) (by omega); rw [lN_Z (by decide)] at h3; omega)
        · exact ev_throwSW (text := "at most 6 digits for a command") dX10_runScript_36 dX10_runScript_39 dX10_runScript_40 dX10_runScript_43 dX10_runScript_46 (by decide +kernel) (by decide +kernel) wk_X10_47 wi_java_lang_IllegalArgumentException (by decide +kernel) th_X10_51 tg_X10_47_51 rfl (Nat.le_of_ble_eq_true rfl) (Nat.le_of_ble_eq_true rfl) (Nat.le_of_ble_eq_true rfl) (Nat.le_of_ble_eq_true rfl) rfl (by rfl)
    · exact absurd hm (by omega)

