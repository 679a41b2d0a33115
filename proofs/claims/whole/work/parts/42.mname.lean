def sBNC (σ : St) (p m c k : Nat) : Bool := sIs σ k m c && sBro σ p (σ 9 k)
def sBNTo (σ : St) (p m c : Nat) : Nat → Option Nat
  | 0 => none
  | k + 1 => if sBNC σ p m c k = true then (match sBNTo σ p m c k with
    | none => some k
    | some e => if σ 9 k < σ 9 e then some k else some e) else sBNTo σ p m c k
def sBN (σ : St) (p m c : Nat) : Option Nat := sBNTo σ p m c (σ 0 1)
theorem sBNTo_no {σ : St} {p m c k : Nat} {o : Option Nat} (h : sBNC σ p m c k = false) (ho : o = sBNTo σ p m c k) : o = sBNTo σ p m c (k + 1) := by rw [sBNTo, if_neg (by rw [h]; decide)]; exact ho
theorem sBNTo_new {σ : St} {p m c k : Nat} (h : sBNC σ p m c k = true) (ho : none = sBNTo σ p m c k) : some k = sBNTo σ p m c (k + 1) := by rw [sBNTo, if_pos h, ← ho]
theorem sBNTo_lo {σ : St} {p m c k e : Nat} (h : sBNC σ p m c k = true) (ho : some e = sBNTo σ p m c k) (hl : σ 9 k < σ 9 e) : some k = sBNTo σ p m c (k + 1) := by rw [sBNTo, if_pos h, ← ho]; exact (if_pos hl).symm
theorem sBNTo_hi {σ : St} {p m c k e : Nat} (h : sBNC σ p m c k = true) (ho : some e = sBNTo σ p m c k) (hl : ¬ σ 9 k < σ 9 e) : some e = sBNTo σ p m c (k + 1) := by rw [sBNTo, if_pos h, ← ho]; exact (if_neg hl).symm
theorem sBNTo_lt {σ : St} {p m c : Nat} : ∀ {k e : Nat}, sBNTo σ p m c k = some e → e < k ∧ sBNC σ p m c e = true
  | 0, e, h => by cases h
  | k + 1, e, h => by
    rw [sBNTo] at h
    split at h
    · rename_i z
      split at h
      · cases h; exact ⟨Nat.lt_succ_self k, z⟩
      · rename_i q
        split at h
        · cases h; exact ⟨Nat.lt_succ_self k, z⟩
        · cases h; have := sBNTo_lt q; exact ⟨Nat.lt_succ_of_lt this.1, this.2⟩
    · have := sBNTo_lt h; exact ⟨Nat.lt_succ_of_lt this.1, this.2⟩
def sLM (σ : St) (b m c : Nat) : Option Nat := fst (fun p => decide (σ 3 p = b) && (sBN σ p m c).isSome) (σ 0 0)
def sMns (σ : St) (b m c : Nat) : Option Nat := match sNameOn σ b none m c with
  | some k => some (σ 9 k)
  | none => sLM σ b m c
theorem sMns_y {σ : St} {b m c k : Nat} (h : sNameOn σ b none m c = some k) : sMns σ b m c = some (σ 9 k) := by unfold sMns; rw [h]
theorem sMns_n {σ : St} {b m c : Nat} (h : sNameOn σ b none m c = none) : sMns σ b m c = sLM σ b m c := by unfold sMns; rw [h]
theorem bRo {o p : Option Nat} (h : o = p) : (Sum.inl (some (Value.int (oI o))) : Option Value ⊕ String) = Sum.inl (some (Value.int (oI p))) := by rw [h]
set_option maxHeartbeats 4000000 in
set_option maxRecDepth 20000 in
theorem c_X11_brothersName {h : eH} {n a p m c : Nat} {σ : St} (hA : eRow h a σ) (hK : eOK σ) (hp : p < 12) (hm : m < 2 ^ 31) (hc : c < 2 ^ 31) : kX11_brothersName [.ref a, .int (nI p), .int (nI m), .int (nI c)] h n (.inl (some (.int (oI (sBN σ p m c)))), (· = h), some n) 0 0 := by
  refine eM.of RX11 "brothersName" [(0, .ref a), (1, .int (nI p)), (2, .int (nI m)), (3, .int (nI c))] pn_X11 rfl rfl (Nat.le_of_ble_eq_true rfl) rfl ?_
  have hB : eB σ := hK.1
  have h12 := hK.2.1
  have h40 := hK.2.2.1
  refine ev_iconst (v := -1) dX11_brothersName_0 (by decide) ?_
  refine ev_istore dX11_brothersName_1 (Nat.le_of_ble_eq_true rfl) ?_
  refine ev_iconst (v := nI 0) dX11_brothersName_3 rfl ?_
  refine ev_istore dX11_brothersName_4 (Nat.le_of_ble_eq_true rfl) ?_
  have H_6 : ∀ (d_6 : Nat) (k : Nat) (o : Option Nat), d_6 = σ 0 1 - k → (k ≤ σ 0 1) → (o = sBNTo σ p m c k) → eV mX11_brothersName 6 [(0, .ref a), (1, .int (nI p)), (2, .int (nI m)), (3, .int (nI c)), (4, .int (oI o)), (5, .int (nI k))] [] (h, n, 0, 0) (.inl (some (.int (oI (sBN σ p m c)))), (· = h), some n) 0 0 := by
    intro d_6
    induction d_6 using Nat.strongRecOn with
    | _ d_6 ih_6 =>
    intro k o hd_6 hk ho
    refine ev_iload dX11_brothersName_6 rfl ?_
    refine ev_aload_n dX11_brothersName_8 rfl rfl ?_
    refine ev_sipush (v := nI 381) dX11_brothersName_9 rfl ?_
    first | refine ev_rowG (f := 0) (j := 1) dX11_brothersName_12 (by assumption) (Nat.le_of_ble_eq_true rfl) (fun _ => rfl) ?_ | refine ev_ialoadA dX11_brothersName_12 (by first | assumption | omega | exact ePp.ob (by assumption) | exact eNm.ob (by assumption) | exact eRg.ob (by assumption) | exact eTx.ob (by assumption) | exact ePa.ob (by assumption)) (by first | assumption | omega | exact ePp.ob (by assumption) | exact eNm.ob (by assumption) | exact eRg.ob (by assumption) | exact eTx.ob (by assumption) | exact ePa.ob (by assumption)) ?_
    first | ((with_reducible show eV _ _ _ (Value.int (nI _) :: Value.int (nI _) :: _) _ _ _ _); refine ev_icmp_geN (tgt := 95) dX11_brothersName_13 (by decide) (by first | exact hB _ _ | omega) (by first | exact hB _ _ | omega) (fun c_13 => ?_) (fun c_13 => ?_)) | ((with_reducible show eV _ _ _ (Value.int (nI _) :: _) _ _ _ _); refine ev_icmp_geZN (tgt := 95) dX11_brothersName_13 (by decide) (by first | exact hB _ _ | omega) (fun c_13 => ?_) (fun c_13 => ?_)) | ((with_reducible show eV _ _ _ (_ :: Value.int (nI _) :: _) _ _ _ _); refine ev_icmp_geNZ (tgt := 95) dX11_brothersName_13 (by decide) (by first | exact hB _ _ | omega) (fun c_13 => ?_) (fun c_13 => ?_)) | (refine ev_icmp_geZZ (tgt := 95) dX11_brothersName_13 (by decide) (fun c_13 => ?_) (fun c_13 => ?_))
    · refine ev_iload dX11_brothersName_95 rfl ?_
      exact ev_iret dX11_brothersName_97 rfl rfl (by exact bRo (by have e : k = σ 0 1 := (by omega); rw [sBN, ← e]; exact ho.symm)) (by rfl) (fun _ e => by first | exact Option.some.inj e | (have e2 := Option.some.inj e; omega)) (by first | exact Nat.le_of_ble_eq_true rfl | omega) (by first | exact Nat.le_of_ble_eq_true rfl | omega)
    · have h9 := (hK.2.2.2.1 k (by omega)).1
      refine ev_aload_n dX11_brothersName_16 rfl rfl ?_
      refine ev_iload dX11_brothersName_17 rfl ?_
      refine ev_callSi dX11_brothersName_19 c_X11_spot lk_X11_61 ⟨Nat.le_of_ble_eq_true rfl, Nat.le_of_ble_eq_true rfl⟩ rfl (Nat.le_of_ble_eq_true rfl) ⟨by first | exact Nat.le_of_ble_eq_true rfl | omega, by first | exact Nat.le_of_ble_eq_true rfl | omega⟩ (eRo ?_)
      refine ev_iconst (v := nI 3) dX11_brothersName_22 rfl ?_
      first | refine ev_iaddN dX11_brothersName_23 ?_ | refine ev_iadd dX11_brothersName_23 ?_
      first | refine ev_rowN (f := 3) (F := 9) dX11_brothersName_24 (by assumption) (by first | assumption | omega | exact ePp.ob (by assumption) | exact eNm.ob (by assumption) | exact eRg.ob (by assumption) | exact eTx.ob (by assumption) | exact ePa.ob (by assumption)) (by decide) rfl ?_ | refine ev_rowP (f := 3) (F := 4) dX11_brothersName_24 (by assumption) (by first | assumption | omega | exact ePp.ob (by assumption) | exact eNm.ob (by assumption) | exact eRg.ob (by assumption) | exact eTx.ob (by assumption) | exact ePa.ob (by assumption)) (by decide) rfl ?_ | refine ev_ialoadA dX11_brothersName_24 (by first | assumption | omega | exact ePp.ob (by assumption) | exact eNm.ob (by assumption) | exact eRg.ob (by assumption) | exact eTx.ob (by assumption) | exact ePa.ob (by assumption)) (by first | assumption | omega | exact ePp.ob (by assumption) | exact eNm.ob (by assumption) | exact eRg.ob (by assumption) | exact eTx.ob (by assumption) | exact ePa.ob (by assumption)) ?_
      refine ev_istore dX11_brothersName_25 (Nat.le_of_ble_eq_true rfl) ?_
      refine ev_aload_n dX11_brothersName_27 rfl rfl ?_
      refine ev_iload dX11_brothersName_28 rfl ?_
      refine ev_iload_n dX11_brothersName_30 rfl rfl ?_
      refine ev_iload_n dX11_brothersName_31 rfl rfl ?_
      refine ev_callSi dX11_brothersName_32 (c_X11_isCalled hA hB (by omega) hm hc) lk_X11_68 ⟨Nat.le_of_ble_eq_true rfl, Nat.le_of_ble_eq_true rfl⟩ rfl (Nat.le_of_ble_eq_true rfl) ⟨by first | exact Nat.le_of_ble_eq_true rfl | omega, by first | exact Nat.le_of_ble_eq_true rfl | omega⟩ (eRo ?_)
      first | ((with_reducible show eV _ _ _ (Value.int (bI _) :: _) _ _ _ _); refine ev_if_eqB (tgt := 52) dX11_brothersName_35 (by decide) (fun c_35 => ?_) (fun c_35 => ?_)) | ((with_reducible show eV _ _ _ (Value.int (nI _) :: _) _ _ _ _); refine ev_if_eqN (tgt := 52) dX11_brothersName_35 (by decide) (by first | exact hB _ _ | omega) (fun c_35 => ?_) (fun c_35 => ?_)) | (refine ev_if_eqZ (tgt := 52) dX11_brothersName_35 (by decide) (fun c_35 => ?_) (fun c_35 => ?_))
      · refine ev_iconst (v := nI 0) dX11_brothersName_52 rfl ?_
        refine ev_istore dX11_brothersName_53 (Nat.le_of_ble_eq_true rfl) ?_
        refine ev_iload dX11_brothersName_55 rfl ?_
        refine ev_if_eqN (tgt := 85) dX11_brothersName_57 (by decide) (by decide) (fun _ => ?_) (fun c => absurd rfl c)
        refine ev_iload dX11_brothersName_85 rfl ?_
        refine ev_istore dX11_brothersName_87 (Nat.le_of_ble_eq_true rfl) ?_
        first | refine ev_iincN dX11_brothersName_89 rfl (Nat.le_of_ble_eq_true rfl) ?_ | refine ev_iinc dX11_brothersName_89 rfl rfl (Nat.le_of_ble_eq_true rfl) ?_
        refine ev_goto (tgt := 6) dX11_brothersName_92 (by decide) ?_
        first | (exact (ih_6 _ (by omega) (k + 1) (some k) rfl (by first | omega | assumption | rfl) (by first | exact sBNTo_new hcan ho | exact sBNTo_lo hcan ho c_77 | exact sBNTo_hi hcan ho (Nat.not_lt.mpr c_77) | exact sBNTo_no (by unfold sBNC; first | (rw [c_45, Bool.and_false]) | (rw [c_35, Bool.false_and])) ho)).sub1 ⟨rfl, rfl, rfl, rfl, rfl, rfl, trivial⟩ rfl) | (exact (ih_6 _ (by omega) (k + 1) none rfl (by first | omega | assumption | rfl) (by first | exact sBNTo_new hcan ho | exact sBNTo_lo hcan ho c_77 | exact sBNTo_hi hcan ho (Nat.not_lt.mpr c_77) | exact sBNTo_no (by unfold sBNC; first | (rw [c_45, Bool.and_false]) | (rw [c_35, Bool.false_and])) ho)).sub1 ⟨rfl, rfl, rfl, rfl, rfl, rfl, trivial⟩ rfl) | (exact (ih_6 _ (by omega) (k + 1) (some e) rfl (by first | omega | assumption | rfl) (by first | exact sBNTo_new hcan ho | exact sBNTo_lo hcan ho c_77 | exact sBNTo_hi hcan ho (Nat.not_lt.mpr c_77) | exact sBNTo_no (by unfold sBNC; first | (rw [c_45, Bool.and_false]) | (rw [c_35, Bool.false_and])) ho)).sub1 ⟨rfl, rfl, rfl, rfl, rfl, rfl, trivial⟩ rfl) | (exact (ih_6 _ (by omega) (k + 1) o rfl (by first | omega | assumption | rfl) (by first | exact sBNTo_new hcan ho | exact sBNTo_lo hcan ho c_77 | exact sBNTo_hi hcan ho (Nat.not_lt.mpr c_77) | exact sBNTo_no (by unfold sBNC; first | (rw [c_45, Bool.and_false]) | (rw [c_35, Bool.false_and])) ho)).sub1 ⟨rfl, rfl, rfl, rfl, rfl, rfl, trivial⟩ rfl)
      · refine ev_aload_n dX11_brothersName_38 rfl rfl ?_
        refine ev_iload_n dX11_brothersName_39 rfl rfl ?_
        refine ev_iload dX11_brothersName_40 rfl ?_
        refine ev_callSi dX11_brothersName_42 (c_X11_areBrothers hA hB hp (by omega)) lk_X11_76 ⟨Nat.le_of_ble_eq_true rfl, Nat.le_of_ble_eq_true rfl⟩ rfl (Nat.le_of_ble_eq_true rfl) ⟨by first | exact Nat.le_of_ble_eq_true rfl | omega, by first | exact Nat.le_of_ble_eq_true rfl | omega⟩ (eRo ?_)
        first | ((with_reducible show eV _ _ _ (Value.int (bI _) :: _) _ _ _ _); refine ev_if_eqB (tgt := 52) dX11_brothersName_45 (by decide) (fun c_45 => ?_) (fun c_45 => ?_)) | ((with_reducible show eV _ _ _ (Value.int (nI _) :: _) _ _ _ _); refine ev_if_eqN (tgt := 52) dX11_brothersName_45 (by decide) (by first | exact hB _ _ | omega) (fun c_45 => ?_) (fun c_45 => ?_)) | (refine ev_if_eqZ (tgt := 52) dX11_brothersName_45 (by decide) (fun c_45 => ?_) (fun c_45 => ?_))
        · refine ev_iconst (v := nI 0) dX11_brothersName_52 rfl ?_
          refine ev_istore dX11_brothersName_53 (Nat.le_of_ble_eq_true rfl) ?_
          refine ev_iload dX11_brothersName_55 rfl ?_
          refine ev_if_eqN (tgt := 85) dX11_brothersName_57 (by decide) (by decide) (fun _ => ?_) (fun c => absurd rfl c)
          refine ev_iload dX11_brothersName_85 rfl ?_
          refine ev_istore dX11_brothersName_87 (Nat.le_of_ble_eq_true rfl) ?_
          first | refine ev_iincN dX11_brothersName_89 rfl (Nat.le_of_ble_eq_true rfl) ?_ | refine ev_iinc dX11_brothersName_89 rfl rfl (Nat.le_of_ble_eq_true rfl) ?_
          refine ev_goto (tgt := 6) dX11_brothersName_92 (by decide) ?_
          first | (exact (ih_6 _ (by omega) (k + 1) (some k) rfl (by first | omega | assumption | rfl) (by first | exact sBNTo_new hcan ho | exact sBNTo_lo hcan ho c_77 | exact sBNTo_hi hcan ho (Nat.not_lt.mpr c_77) | exact sBNTo_no (by unfold sBNC; first | (rw [c_45, Bool.and_false]) | (rw [c_35, Bool.false_and])) ho)).sub1 ⟨rfl, rfl, rfl, rfl, rfl, rfl, trivial⟩ rfl) | (exact (ih_6 _ (by omega) (k + 1) none rfl (by first | omega | assumption | rfl) (by first | exact sBNTo_new hcan ho | exact sBNTo_lo hcan ho c_77 | exact sBNTo_hi hcan ho (Nat.not_lt.mpr c_77) | exact sBNTo_no (by unfold sBNC; first | (rw [c_45, Bool.and_false]) | (rw [c_35, Bool.false_and])) ho)).sub1 ⟨rfl, rfl, rfl, rfl, rfl, rfl, trivial⟩ rfl) | (exact (ih_6 _ (by omega) (k + 1) (some e) rfl (by first | omega | assumption | rfl) (by first | exact sBNTo_new hcan ho | exact sBNTo_lo hcan ho c_77 | exact sBNTo_hi hcan ho (Nat.not_lt.mpr c_77) | exact sBNTo_no (by unfold sBNC; first | (rw [c_45, Bool.and_false]) | (rw [c_35, Bool.false_and])) ho)).sub1 ⟨rfl, rfl, rfl, rfl, rfl, rfl, trivial⟩ rfl) | (exact (ih_6 _ (by omega) (k + 1) o rfl (by first | omega | assumption | rfl) (by first | exact sBNTo_new hcan ho | exact sBNTo_lo hcan ho c_77 | exact sBNTo_hi hcan ho (Nat.not_lt.mpr c_77) | exact sBNTo_no (by unfold sBNC; first | (rw [c_45, Bool.and_false]) | (rw [c_35, Bool.false_and])) ho)).sub1 ⟨rfl, rfl, rfl, rfl, rfl, rfl, trivial⟩ rfl)
        · refine ev_iconst (v := nI 1) dX11_brothersName_48 rfl ?_
          refine ev_goto (tgt := 53) dX11_brothersName_49 (by decide) ?_
          refine ev_istore dX11_brothersName_53 (Nat.le_of_ble_eq_true rfl) ?_
          refine ev_iload dX11_brothersName_55 rfl ?_
          refine ev_if_eqN (tgt := 85) dX11_brothersName_57 (by decide) (by decide) (fun c => absurd c (by decide)) (fun _ => ?_)
          have hcan : sBNC σ p m c k = true := by unfold sBNC; rw [c_35, c_45]; rfl
          refine ev_iload dX11_brothersName_60 rfl ?_
          refine ev_iconst (v := -1) dX11_brothersName_62 (by decide) ?_
          first | ((with_reducible show eV _ _ _ (Value.int (nI _) :: Value.int (nI _) :: _) _ _ _ _); refine ev_icmp_eqN (tgt := 80) dX11_brothersName_63 (by decide) (by first | exact hB _ _ | omega) (by first | exact hB _ _ | omega) (fun c_63 => ?_) (fun c_63 => ?_)) | ((with_reducible show eV _ _ _ (Value.int (-1) :: Value.int (oI _) :: _) _ _ _ _); refine ev_icmp_eqO (tgt := 80) dX11_brothersName_63 (by decide) (by (intro k9 h9; have := (sBNTo_lt (ho ▸ h9)).1; omega)) (fun c_63 => ?_) (fun c_63 => ?_)) | ((with_reducible show eV _ _ _ (Value.int (oI _) :: Value.int (nI _) :: _) _ _ _ _); refine ev_icmp_eqNO (tgt := 80) dX11_brothersName_63 (by decide) (by first | exact hB _ _ | omega) (by (intro k9 h9; have := (sBNTo_lt (ho ▸ h9)).1; omega)) (fun c_63 => ?_) (fun c_63 => ?_)) | ((with_reducible show eV _ _ _ (Value.int (nI _) :: Value.int (oI _) :: _) _ _ _ _); refine ev_icmp_eqON (tgt := 80) dX11_brothersName_63 (by decide) (by first | exact hB _ _ | omega) (by (intro k9 h9; have := (sBNTo_lt (ho ▸ h9)).1; omega)) (fun c_63 => ?_) (fun c_63 => ?_)) | ((with_reducible show eV _ _ _ (Value.int (nI _) :: _) _ _ _ _); refine ev_icmp_eqZN (tgt := 80) dX11_brothersName_63 (by decide) (by first | exact hB _ _ | omega) (fun c_63 => ?_) (fun c_63 => ?_)) | ((with_reducible show eV _ _ _ (_ :: Value.int (nI _) :: _) _ _ _ _); refine ev_icmp_eqNZ (tgt := 80) dX11_brothersName_63 (by decide) (by first | exact hB _ _ | omega) (fun c_63 => ?_) (fun c_63 => ?_)) | (refine ev_icmp_eqZZ (tgt := 80) dX11_brothersName_63 (by decide) (fun c_63 => ?_) (fun c_63 => ?_))
          · try subst c_63
            refine ev_iload dX11_brothersName_80 rfl ?_
            refine ev_goto (tgt := 87) dX11_brothersName_82 (by decide) ?_
            refine ev_istore dX11_brothersName_87 (Nat.le_of_ble_eq_true rfl) ?_
            first | refine ev_iincN dX11_brothersName_89 rfl (Nat.le_of_ble_eq_true rfl) ?_ | refine ev_iinc dX11_brothersName_89 rfl rfl (Nat.le_of_ble_eq_true rfl) ?_
            refine ev_goto (tgt := 6) dX11_brothersName_92 (by decide) ?_
            first | (exact (ih_6 _ (by omega) (k + 1) (some k) rfl (by first | omega | assumption | rfl) (by first | exact sBNTo_new hcan ho | exact sBNTo_lo hcan ho c_77 | exact sBNTo_hi hcan ho (Nat.not_lt.mpr c_77) | exact sBNTo_no (by unfold sBNC; first | (rw [c_45, Bool.and_false]) | (rw [c_35, Bool.false_and])) ho)).sub1 ⟨rfl, rfl, rfl, rfl, rfl, rfl, trivial⟩ rfl) | (exact (ih_6 _ (by omega) (k + 1) none rfl (by first | omega | assumption | rfl) (by first | exact sBNTo_new hcan ho | exact sBNTo_lo hcan ho c_77 | exact sBNTo_hi hcan ho (Nat.not_lt.mpr c_77) | exact sBNTo_no (by unfold sBNC; first | (rw [c_45, Bool.and_false]) | (rw [c_35, Bool.false_and])) ho)).sub1 ⟨rfl, rfl, rfl, rfl, rfl, rfl, trivial⟩ rfl) | (exact (ih_6 _ (by omega) (k + 1) (some e) rfl (by first | omega | assumption | rfl) (by first | exact sBNTo_new hcan ho | exact sBNTo_lo hcan ho c_77 | exact sBNTo_hi hcan ho (Nat.not_lt.mpr c_77) | exact sBNTo_no (by unfold sBNC; first | (rw [c_45, Bool.and_false]) | (rw [c_35, Bool.false_and])) ho)).sub1 ⟨rfl, rfl, rfl, rfl, rfl, rfl, trivial⟩ rfl) | (exact (ih_6 _ (by omega) (k + 1) o rfl (by first | omega | assumption | rfl) (by first | exact sBNTo_new hcan ho | exact sBNTo_lo hcan ho c_77 | exact sBNTo_hi hcan ho (Nat.not_lt.mpr c_77) | exact sBNTo_no (by unfold sBNC; first | (rw [c_45, Bool.and_false]) | (rw [c_35, Bool.false_and])) ho)).sub1 ⟨rfl, rfl, rfl, rfl, rfl, rfl, trivial⟩ rfl)
          · try subst c_63
            obtain ⟨e, rfl⟩ := Option.ne_none_iff_exists'.mp c_63
            rw [show oI (some e) = nI e from rfl]
            have hek := (sBNTo_lt ho.symm).1
            refine ev_iload dX11_brothersName_66 rfl ?_
            refine ev_aload_n dX11_brothersName_68 rfl rfl ?_
            refine ev_iload dX11_brothersName_69 rfl ?_
            refine ev_callSi dX11_brothersName_71 c_X11_spot lk_X11_61 ⟨Nat.le_of_ble_eq_true rfl, Nat.le_of_ble_eq_true rfl⟩ rfl (Nat.le_of_ble_eq_true rfl) ⟨by first | exact Nat.le_of_ble_eq_true rfl | omega, by first | exact Nat.le_of_ble_eq_true rfl | omega⟩ (eRo ?_)
            refine ev_iconst (v := nI 3) dX11_brothersName_74 rfl ?_
            first | refine ev_iaddN dX11_brothersName_75 ?_ | refine ev_iadd dX11_brothersName_75 ?_
            first | refine ev_rowN (f := 3) (F := 9) dX11_brothersName_76 (by assumption) (by first | assumption | omega | exact ePp.ob (by assumption) | exact eNm.ob (by assumption) | exact eRg.ob (by assumption) | exact eTx.ob (by assumption) | exact ePa.ob (by assumption)) (by decide) rfl ?_ | refine ev_rowP (f := 3) (F := 4) dX11_brothersName_76 (by assumption) (by first | assumption | omega | exact ePp.ob (by assumption) | exact eNm.ob (by assumption) | exact eRg.ob (by assumption) | exact eTx.ob (by assumption) | exact ePa.ob (by assumption)) (by decide) rfl ?_ | refine ev_ialoadA dX11_brothersName_76 (by first | assumption | omega | exact ePp.ob (by assumption) | exact eNm.ob (by assumption) | exact eRg.ob (by assumption) | exact eTx.ob (by assumption) | exact ePa.ob (by assumption)) (by first | assumption | omega | exact ePp.ob (by assumption) | exact eNm.ob (by assumption) | exact eRg.ob (by assumption) | exact eTx.ob (by assumption) | exact ePa.ob (by assumption)) ?_
            first | ((with_reducible show eV _ _ _ (Value.int (nI _) :: Value.int (nI _) :: _) _ _ _ _); refine ev_icmp_geN (tgt := 85) dX11_brothersName_77 (by decide) (by first | exact hB _ _ | omega) (by first | exact hB _ _ | omega) (fun c_77 => ?_) (fun c_77 => ?_)) | ((with_reducible show eV _ _ _ (Value.int (nI _) :: _) _ _ _ _); refine ev_icmp_geZN (tgt := 85) dX11_brothersName_77 (by decide) (by first | exact hB _ _ | omega) (fun c_77 => ?_) (fun c_77 => ?_)) | ((with_reducible show eV _ _ _ (_ :: Value.int (nI _) :: _) _ _ _ _); refine ev_icmp_geNZ (tgt := 85) dX11_brothersName_77 (by decide) (by first | exact hB _ _ | omega) (fun c_77 => ?_) (fun c_77 => ?_)) | (refine ev_icmp_geZZ (tgt := 85) dX11_brothersName_77 (by decide) (fun c_77 => ?_) (fun c_77 => ?_))
            · refine ev_iload dX11_brothersName_85 rfl ?_
              refine ev_istore dX11_brothersName_87 (Nat.le_of_ble_eq_true rfl) ?_
              first | refine ev_iincN dX11_brothersName_89 rfl (Nat.le_of_ble_eq_true rfl) ?_ | refine ev_iinc dX11_brothersName_89 rfl rfl (Nat.le_of_ble_eq_true rfl) ?_
              refine ev_goto (tgt := 6) dX11_brothersName_92 (by decide) ?_
              first | (exact (ih_6 _ (by omega) (k + 1) (some k) rfl (by first | omega | assumption | rfl) (by first | exact sBNTo_new hcan ho | exact sBNTo_lo hcan ho c_77 | exact sBNTo_hi hcan ho (Nat.not_lt.mpr c_77) | exact sBNTo_no (by unfold sBNC; first | (rw [c_45, Bool.and_false]) | (rw [c_35, Bool.false_and])) ho)).sub1 ⟨rfl, rfl, rfl, rfl, rfl, rfl, trivial⟩ rfl) | (exact (ih_6 _ (by omega) (k + 1) none rfl (by first | omega | assumption | rfl) (by first | exact sBNTo_new hcan ho | exact sBNTo_lo hcan ho c_77 | exact sBNTo_hi hcan ho (Nat.not_lt.mpr c_77) | exact sBNTo_no (by unfold sBNC; first | (rw [c_45, Bool.and_false]) | (rw [c_35, Bool.false_and])) ho)).sub1 ⟨rfl, rfl, rfl, rfl, rfl, rfl, trivial⟩ rfl) | (exact (ih_6 _ (by omega) (k + 1) (some e) rfl (by first | omega | assumption | rfl) (by first | exact sBNTo_new hcan ho | exact sBNTo_lo hcan ho c_77 | exact sBNTo_hi hcan ho (Nat.not_lt.mpr c_77) | exact sBNTo_no (by unfold sBNC; first | (rw [c_45, Bool.and_false]) | (rw [c_35, Bool.false_and])) ho)).sub1 ⟨rfl, rfl, rfl, rfl, rfl, rfl, trivial⟩ rfl) | (exact (ih_6 _ (by omega) (k + 1) o rfl (by first | omega | assumption | rfl) (by first | exact sBNTo_new hcan ho | exact sBNTo_lo hcan ho c_77 | exact sBNTo_hi hcan ho (Nat.not_lt.mpr c_77) | exact sBNTo_no (by unfold sBNC; first | (rw [c_45, Bool.and_false]) | (rw [c_35, Bool.false_and])) ho)).sub1 ⟨rfl, rfl, rfl, rfl, rfl, rfl, trivial⟩ rfl)
            · refine ev_iload dX11_brothersName_80 rfl ?_
              refine ev_goto (tgt := 87) dX11_brothersName_82 (by decide) ?_
              refine ev_istore dX11_brothersName_87 (Nat.le_of_ble_eq_true rfl) ?_
              first | refine ev_iincN dX11_brothersName_89 rfl (Nat.le_of_ble_eq_true rfl) ?_ | refine ev_iinc dX11_brothersName_89 rfl rfl (Nat.le_of_ble_eq_true rfl) ?_
              refine ev_goto (tgt := 6) dX11_brothersName_92 (by decide) ?_
              first | (exact (ih_6 _ (by omega) (k + 1) (some k) rfl (by first | omega | assumption | rfl) (by first | exact sBNTo_new hcan ho | exact sBNTo_lo hcan ho c_77 | exact sBNTo_hi hcan ho (Nat.not_lt.mpr c_77) | exact sBNTo_no (by unfold sBNC; first | (rw [c_45, Bool.and_false]) | (rw [c_35, Bool.false_and])) ho)).sub1 ⟨rfl, rfl, rfl, rfl, rfl, rfl, trivial⟩ rfl) | (exact (ih_6 _ (by omega) (k + 1) none rfl (by first | omega | assumption | rfl) (by first | exact sBNTo_new hcan ho | exact sBNTo_lo hcan ho c_77 | exact sBNTo_hi hcan ho (Nat.not_lt.mpr c_77) | exact sBNTo_no (by unfold sBNC; first | (rw [c_45, Bool.and_false]) | (rw [c_35, Bool.false_and])) ho)).sub1 ⟨rfl, rfl, rfl, rfl, rfl, rfl, trivial⟩ rfl) | (exact (ih_6 _ (by omega) (k + 1) (some e) rfl (by first | omega | assumption | rfl) (by first | exact sBNTo_new hcan ho | exact sBNTo_lo hcan ho c_77 | exact sBNTo_hi hcan ho (Nat.not_lt.mpr c_77) | exact sBNTo_no (by unfold sBNC; first | (rw [c_45, Bool.and_false]) | (rw [c_35, Bool.false_and])) ho)).sub1 ⟨rfl, rfl, rfl, rfl, rfl, rfl, trivial⟩ rfl) | (exact (ih_6 _ (by omega) (k + 1) o rfl (by first | omega | assumption | rfl) (by first | exact sBNTo_new hcan ho | exact sBNTo_lo hcan ho c_77 | exact sBNTo_hi hcan ho (Nat.not_lt.mpr c_77) | exact sBNTo_no (by unfold sBNC; first | (rw [c_45, Bool.and_false]) | (rw [c_35, Bool.false_and])) ho)).sub1 ⟨rfl, rfl, rfl, rfl, rfl, rfl, trivial⟩ rfl)
  exact (H_6 _ 0 none rfl (by first | omega | assumption | rfl) (by first | omega | assumption | rfl)).sub1 ⟨rfl, rfl, rfl, rfl, rfl, rfl, trivial⟩ rfl
set_option maxHeartbeats 4000000 in
set_option maxRecDepth 20000 in
theorem c_X11_lowestMixed {h : eH} {n a b m c : Nat} {σ : St} (hA : eRow h a σ) (hK : eOK σ) (hb : b < 2 ^ 31) (hm : m < 2 ^ 31) (hc : c < 2 ^ 31) : kX11_lowestMixed [.ref a, .int (nI b), .int (nI m), .int (nI c)] h n (.inl (some (.int (oI (sLM σ b m c)))), (· = h), some n) 0 0 := by
  refine eM.of RX11 "lowestMixed" [(0, .ref a), (1, .int (nI b)), (2, .int (nI m)), (3, .int (nI c))] pn_X11 rfl rfl (Nat.le_of_ble_eq_true rfl) rfl ?_
  have hB : eB σ := hK.1
  have h12 := hK.2.1
  have h40 := hK.2.2.1
  refine ev_iconst (v := nI 0) dX11_lowestMixed_0 rfl ?_
  refine ev_istore dX11_lowestMixed_1 (Nat.le_of_ble_eq_true rfl) ?_
  have H_3 : ∀ (d_3 : Nat) (k : Nat), d_3 = σ 0 0 - k → (k ≤ σ 0 0) → (fst (fun p => decide (σ 3 p = b) && (sBN σ p m c).isSome) k = none) → eV mX11_lowestMixed 3 [(0, .ref a), (1, .int (nI b)), (2, .int (nI m)), (3, .int (nI c)), (4, .int (nI k))] [] (h, n, 0, 0) (.inl (some (.int (oI (sLM σ b m c)))), (· = h), some n) 0 0 := by
    intro d_3
    induction d_3 using Nat.strongRecOn with
    | _ d_3 ih_3 =>
    intro k hd_3 hk hf
    refine ev_iload dX11_lowestMixed_3 rfl ?_
    refine ev_aload_n dX11_lowestMixed_5 rfl rfl ?_
    refine ev_sipush (v := nI 380) dX11_lowestMixed_6 rfl ?_
    first | refine ev_rowG (f := 0) (j := 0) dX11_lowestMixed_9 (by assumption) (Nat.le_of_ble_eq_true rfl) (fun _ => rfl) ?_ | refine ev_ialoadA dX11_lowestMixed_9 (by first | assumption | omega | exact ePp.ob (by assumption) | exact eNm.ob (by assumption) | exact eRg.ob (by assumption) | exact eTx.ob (by assumption) | exact ePa.ob (by assumption)) (by first | assumption | omega | exact ePp.ob (by assumption) | exact eNm.ob (by assumption) | exact eRg.ob (by assumption) | exact eTx.ob (by assumption) | exact ePa.ob (by assumption)) ?_
    first | ((with_reducible show eV _ _ _ (Value.int (nI _) :: Value.int (nI _) :: _) _ _ _ _); refine ev_icmp_geN (tgt := 44) dX11_lowestMixed_10 (by decide) (by first | exact hB _ _ | omega) (by first | exact hB _ _ | omega) (fun c_10 => ?_) (fun c_10 => ?_)) | ((with_reducible show eV _ _ _ (Value.int (nI _) :: _) _ _ _ _); refine ev_icmp_geZN (tgt := 44) dX11_lowestMixed_10 (by decide) (by first | exact hB _ _ | omega) (fun c_10 => ?_) (fun c_10 => ?_)) | ((with_reducible show eV _ _ _ (_ :: Value.int (nI _) :: _) _ _ _ _); refine ev_icmp_geNZ (tgt := 44) dX11_lowestMixed_10 (by decide) (by first | exact hB _ _ | omega) (fun c_10 => ?_) (fun c_10 => ?_)) | (refine ev_icmp_geZZ (tgt := 44) dX11_lowestMixed_10 (by decide) (fun c_10 => ?_) (fun c_10 => ?_))
    · refine ev_iconst (v := -1) dX11_lowestMixed_44 (by decide) ?_
      exact ev_iret dX11_lowestMixed_45 rfl rfl (by exact oRn (by have e : k = σ 0 0 := (by omega); rw [sLM, ← e]; exact hf)) (by rfl) (fun _ e => by first | exact Option.some.inj e | (have e2 := Option.some.inj e; omega)) (by first | exact Nat.le_of_ble_eq_true rfl | omega) (by first | exact Nat.le_of_ble_eq_true rfl | omega)
    · refine ev_aload_n dX11_lowestMixed_13 rfl rfl ?_
      refine ev_iload dX11_lowestMixed_14 rfl ?_
      refine ev_callSi dX11_lowestMixed_16 (c_X11_benchOf hA (by omega)) lk_X11_72 ⟨Nat.le_of_ble_eq_true rfl, Nat.le_of_ble_eq_true rfl⟩ rfl (Nat.le_of_ble_eq_true rfl) ⟨by first | exact Nat.le_of_ble_eq_true rfl | omega, by first | exact Nat.le_of_ble_eq_true rfl | omega⟩ (eRo ?_)
      refine ev_iload_n dX11_lowestMixed_19 rfl rfl ?_
      first | ((with_reducible show eV _ _ _ (Value.int (nI _) :: Value.int (nI _) :: _) _ _ _ _); refine ev_icmp_neN (tgt := 38) dX11_lowestMixed_20 (by decide) (by first | exact hB _ _ | omega) (by first | exact hB _ _ | omega) (fun c_20 => ?_) (fun c_20 => ?_)) | ((with_reducible show eV _ _ _ (Value.int (-1) :: Value.int (oI _) :: _) _ _ _ _); refine ev_icmp_neO (tgt := 38) dX11_lowestMixed_20 (by decide) (by (intro k9 h9; have := (sBNTo_lt h9).1; omega)) (fun c_20 => ?_) (fun c_20 => ?_)) | ((with_reducible show eV _ _ _ (Value.int (nI _) :: Value.int (oI _) :: _) _ _ _ _); refine ev_icmp_neON (tgt := 38) dX11_lowestMixed_20 (by decide) (by first | exact hB _ _ | omega) (by (intro k9 h9; have := (sBNTo_lt h9).1; omega)) (fun c_20 => ?_) (fun c_20 => ?_)) | ((with_reducible show eV _ _ _ (Value.int (nI _) :: _) _ _ _ _); refine ev_icmp_neZN (tgt := 38) dX11_lowestMixed_20 (by decide) (by first | exact hB _ _ | omega) (fun c_20 => ?_) (fun c_20 => ?_)) | ((with_reducible show eV _ _ _ (_ :: Value.int (nI _) :: _) _ _ _ _); refine ev_icmp_neNZ (tgt := 38) dX11_lowestMixed_20 (by decide) (by first | exact hB _ _ | omega) (fun c_20 => ?_) (fun c_20 => ?_)) | (refine ev_icmp_neZZ (tgt := 38) dX11_lowestMixed_20 (by decide) (fun c_20 => ?_) (fun c_20 => ?_))
      · first | refine ev_iincN dX11_lowestMixed_38 rfl (Nat.le_of_ble_eq_true rfl) ?_ | refine ev_iinc dX11_lowestMixed_38 rfl rfl (Nat.le_of_ble_eq_true rfl) ?_
        refine ev_goto (tgt := 3) dX11_lowestMixed_41 (by decide) ?_
        exact (ih_3 _ (by omega) _  rfl (by first | omega | assumption | rfl) (by exact fst_s hf (by first | (simp [c_32] <;> omega) | (simp [c_20] <;> omega)))).sub1 ⟨rfl, rfl, rfl, rfl, rfl, trivial⟩ rfl
      · refine ev_aload_n dX11_lowestMixed_23 rfl rfl ?_
        refine ev_iload dX11_lowestMixed_24 rfl ?_
        refine ev_iload_n dX11_lowestMixed_26 rfl rfl ?_
        refine ev_iload_n dX11_lowestMixed_27 rfl rfl ?_
        refine ev_callSi dX11_lowestMixed_28 (c_X11_brothersName hA hK (by omega) hm hc) lk_X11_94 ⟨Nat.le_of_ble_eq_true rfl, Nat.le_of_ble_eq_true rfl⟩ rfl (Nat.le_of_ble_eq_true rfl) ⟨by first | exact Nat.le_of_ble_eq_true rfl | omega, by first | exact Nat.le_of_ble_eq_true rfl | omega⟩ (eRo ?_)
        refine ev_iconst (v := -1) dX11_lowestMixed_31 (by decide) ?_
        first | ((with_reducible show eV _ _ _ (Value.int (nI _) :: Value.int (nI _) :: _) _ _ _ _); refine ev_icmp_eqN (tgt := 38) dX11_lowestMixed_32 (by decide) (by first | exact hB _ _ | omega) (by first | exact hB _ _ | omega) (fun c_32 => ?_) (fun c_32 => ?_)) | ((with_reducible show eV _ _ _ (Value.int (-1) :: Value.int (oI _) :: _) _ _ _ _); refine ev_icmp_eqO (tgt := 38) dX11_lowestMixed_32 (by decide) (by (intro k9 h9; have := (sBNTo_lt h9).1; omega)) (fun c_32 => ?_) (fun c_32 => ?_)) | ((with_reducible show eV _ _ _ (Value.int (oI _) :: Value.int (nI _) :: _) _ _ _ _); refine ev_icmp_eqNO (tgt := 38) dX11_lowestMixed_32 (by decide) (by first | exact hB _ _ | omega) (by (intro k9 h9; have := (sBNTo_lt h9).1; omega)) (fun c_32 => ?_) (fun c_32 => ?_)) | ((with_reducible show eV _ _ _ (Value.int (nI _) :: Value.int (oI _) :: _) _ _ _ _); refine ev_icmp_eqON (tgt := 38) dX11_lowestMixed_32 (by decide) (by first | exact hB _ _ | omega) (by (intro k9 h9; have := (sBNTo_lt h9).1; omega)) (fun c_32 => ?_) (fun c_32 => ?_)) | ((with_reducible show eV _ _ _ (Value.int (nI _) :: _) _ _ _ _); refine ev_icmp_eqZN (tgt := 38) dX11_lowestMixed_32 (by decide) (by first | exact hB _ _ | omega) (fun c_32 => ?_) (fun c_32 => ?_)) | ((with_reducible show eV _ _ _ (_ :: Value.int (nI _) :: _) _ _ _ _); refine ev_icmp_eqNZ (tgt := 38) dX11_lowestMixed_32 (by decide) (by first | exact hB _ _ | omega) (fun c_32 => ?_) (fun c_32 => ?_)) | (refine ev_icmp_eqZZ (tgt := 38) dX11_lowestMixed_32 (by decide) (fun c_32 => ?_) (fun c_32 => ?_))
        · first | refine ev_iincN dX11_lowestMixed_38 rfl (Nat.le_of_ble_eq_true rfl) ?_ | refine ev_iinc dX11_lowestMixed_38 rfl rfl (Nat.le_of_ble_eq_true rfl) ?_
          refine ev_goto (tgt := 3) dX11_lowestMixed_41 (by decide) ?_
          exact (ih_3 _ (by omega) _  rfl (by first | omega | assumption | rfl) (by exact fst_s hf (by first | (simp [c_32] <;> omega) | (simp [c_20] <;> omega)))).sub1 ⟨rfl, rfl, rfl, rfl, rfl, trivial⟩ rfl
        · refine ev_iload dX11_lowestMixed_35 rfl ?_
          exact ev_iret dX11_lowestMixed_37 rfl rfl (by exact oRx (fst_up hf (by rw [decide_eq_true c_20, Option.isSome_iff_ne_none.mpr c_32]; rfl) (by omega))) (by rfl) (fun _ e => by first | exact Option.some.inj e | (have e2 := Option.some.inj e; omega)) (by first | exact Nat.le_of_ble_eq_true rfl | omega) (by first | exact Nat.le_of_ble_eq_true rfl | omega)
  exact (H_3 _ 0 rfl (by first | omega | assumption | rfl) (by first | omega | assumption | rfl)).sub1 ⟨rfl, rfl, rfl, rfl, rfl, trivial⟩ rfl
set_option maxHeartbeats 4000000 in
set_option maxRecDepth 20000 in
theorem c_X11_means {h : eH} {n a b m c : Nat} {σ : St} (hA : eRow h a σ) (hK : eOK σ) (hb : b < 2 ^ 31) (hm : m < 2 ^ 31) (hc : c < 2 ^ 31) : kX11_means [.ref a, .int (nI b), .int (nI m), .int (nI c)] h n (.inl (some (.int (oI (sMns σ b m c)))), (· = h), some n) 0 0 := by
  refine eM.of RX11 "means" [(0, .ref a), (1, .int (nI b)), (2, .int (nI m)), (3, .int (nI c))] pn_X11 rfl rfl (Nat.le_of_ble_eq_true rfl) rfl ?_
  have hB : eB σ := hK.1
  have h40 := hK.2.2.1
  refine ev_aload_n dX11_means_0 rfl rfl ?_
  refine ev_iload_n dX11_means_1 rfl rfl ?_
  refine ev_iconst (v := -1) dX11_means_2 (by decide) ?_
  refine ev_iload_n dX11_means_3 rfl rfl ?_
  refine ev_iload_n dX11_means_4 rfl rfl ?_
  refine ev_callSi dX11_means_5 (c_X11_nameOn (ex := none) hA hK hb (fun _ h9 => nomatch h9) hm hc) lk_X11_83 ⟨Nat.le_of_ble_eq_true rfl, Nat.le_of_ble_eq_true rfl⟩ rfl (Nat.le_of_ble_eq_true rfl) ⟨by first | exact Nat.le_of_ble_eq_true rfl | omega, by first | exact Nat.le_of_ble_eq_true rfl | omega⟩ (eRo ?_)
  refine ev_istore dX11_means_8 (Nat.le_of_ble_eq_true rfl) ?_
  refine ev_iload dX11_means_10 rfl ?_
  refine ev_iconst (v := -1) dX11_means_12 (by decide) ?_
  first | ((with_reducible show eV _ _ _ (Value.int (nI _) :: Value.int (nI _) :: _) _ _ _ _); refine ev_icmp_eqN (tgt := 28) dX11_means_13 (by decide) (by first | exact hB _ _ | omega) (by first | exact hB _ _ | omega) (fun c_13 => ?_) (fun c_13 => ?_)) | ((with_reducible show eV _ _ _ (Value.int (-1) :: Value.int (oI _) :: _) _ _ _ _); refine ev_icmp_eqO (tgt := 28) dX11_means_13 (by decide) (by (intro k9 h9; have := (fst_lt h9).1; omega)) (fun c_13 => ?_) (fun c_13 => ?_)) | ((with_reducible show eV _ _ _ (Value.int (oI _) :: Value.int (nI _) :: _) _ _ _ _); refine ev_icmp_eqNO (tgt := 28) dX11_means_13 (by decide) (by first | exact hB _ _ | omega) (by (intro k9 h9; have := (fst_lt h9).1; omega)) (fun c_13 => ?_) (fun c_13 => ?_)) | ((with_reducible show eV _ _ _ (Value.int (nI _) :: Value.int (oI _) :: _) _ _ _ _); refine ev_icmp_eqON (tgt := 28) dX11_means_13 (by decide) (by first | exact hB _ _ | omega) (by (intro k9 h9; have := (fst_lt h9).1; omega)) (fun c_13 => ?_) (fun c_13 => ?_)) | ((with_reducible show eV _ _ _ (Value.int (nI _) :: _) _ _ _ _); refine ev_icmp_eqZN (tgt := 28) dX11_means_13 (by decide) (by first | exact hB _ _ | omega) (fun c_13 => ?_) (fun c_13 => ?_)) | ((with_reducible show eV _ _ _ (_ :: Value.int (nI _) :: _) _ _ _ _); refine ev_icmp_eqNZ (tgt := 28) dX11_means_13 (by decide) (by first | exact hB _ _ | omega) (fun c_13 => ?_) (fun c_13 => ?_)) | (refine ev_icmp_eqZZ (tgt := 28) dX11_means_13 (by decide) (fun c_13 => ?_) (fun c_13 => ?_))
  · refine ev_aload_n dX11_means_28 rfl rfl ?_
    refine ev_iload_n dX11_means_29 rfl rfl ?_
    refine ev_iload_n dX11_means_30 rfl rfl ?_
    refine ev_iload_n dX11_means_31 rfl rfl ?_
    refine ev_callSi dX11_means_32 (c_X11_lowestMixed hA hK hb hm hc) lk_X11_98 ⟨Nat.le_of_ble_eq_true rfl, Nat.le_of_ble_eq_true rfl⟩ rfl (Nat.le_of_ble_eq_true rfl) ⟨by first | exact Nat.le_of_ble_eq_true rfl | omega, by first | exact Nat.le_of_ble_eq_true rfl | omega⟩ (eRo ?_)
    exact ev_iret dX11_means_35 rfl rfl (by first | exact oRx (sMns_y hk) | exact bRo (sMns_n c_13)) (by rfl) (fun _ e => Option.some.inj e) (Nat.le_of_ble_eq_true rfl) (Nat.le_of_ble_eq_true rfl)
  · obtain ⟨k, hk⟩ := Option.ne_none_iff_exists'.mp c_13
    rw [hk, show oI (some k) = nI k from rfl]
    have hk2 := (fst_lt hk).1
    refine ev_aload_n dX11_means_16 rfl rfl ?_
    refine ev_iload dX11_means_17 rfl ?_
    refine ev_callSi dX11_means_19 c_X11_spot lk_X11_61 ⟨Nat.le_of_ble_eq_true rfl, Nat.le_of_ble_eq_true rfl⟩ rfl (Nat.le_of_ble_eq_true rfl) ⟨by first | exact Nat.le_of_ble_eq_true rfl | omega, by first | exact Nat.le_of_ble_eq_true rfl | omega⟩ (eRo ?_)
    refine ev_iconst (v := nI 3) dX11_means_22 rfl ?_
    first | refine ev_iaddN dX11_means_23 ?_ | refine ev_iadd dX11_means_23 ?_
    first | refine ev_rowN (f := 3) (F := 9) dX11_means_24 (by assumption) (by first | assumption | omega | exact ePp.ob (by assumption) | exact eNm.ob (by assumption) | exact eRg.ob (by assumption) | exact eTx.ob (by assumption) | exact ePa.ob (by assumption)) (by decide) rfl ?_ | refine ev_rowP (f := 3) (F := 4) dX11_means_24 (by assumption) (by first | assumption | omega | exact ePp.ob (by assumption) | exact eNm.ob (by assumption) | exact eRg.ob (by assumption) | exact eTx.ob (by assumption) | exact ePa.ob (by assumption)) (by decide) rfl ?_ | refine ev_ialoadA dX11_means_24 (by first | assumption | omega | exact ePp.ob (by assumption) | exact eNm.ob (by assumption) | exact eRg.ob (by assumption) | exact eTx.ob (by assumption) | exact ePa.ob (by assumption)) (by first | assumption | omega | exact ePp.ob (by assumption) | exact eNm.ob (by assumption) | exact eRg.ob (by assumption) | exact eTx.ob (by assumption) | exact ePa.ob (by assumption)) ?_
    refine ev_goto (tgt := 35) dX11_means_25 (by decide) ?_
    exact ev_iret dX11_means_35 rfl rfl (by first | exact oRx (sMns_y hk) | exact bRo (sMns_n c_13)) (by rfl) (fun _ e => Option.some.inj e) (Nat.le_of_ble_eq_true rfl) (Nat.le_of_ble_eq_true rfl)
theorem sHeirC_no {σ : St} {p k : Nat} {o : Option Nat} (h : (sBro σ p k && (decide (σ 1 k < σ 1 p) && (decide (σ 3 k = σ 3 p) && decide (sLives σ k < 3)))) = false) (ho : o = sHeirTo σ p k) : o = sHeirTo σ p (k + 1) := by
  have e : sHeirC σ p k (sHeirTo σ p k) = false := by
    unfold sHeirC sYounger
    by_cases z1 : σ 2 k = σ 2 p
    · by_cases z2 : σ 1 k < σ 1 p
      · have z3 : p ≠ k := fun e => by subst e; omega
        simp [sBro, z1, z2, z3] at h
        by_cases z4 : σ 3 k = σ 3 p
        · have := h z4; simp [show ¬ sLives σ k < 3 by omega]
        · simp [z4]
      · simp [z2]
    · simp [z1]
  rw [sHeirTo, if_neg (by rw [e]; decide)]; exact ho
theorem sHeirC_can {σ : St} {p k : Nat} (h1 : sBro σ p k = true) (h2 : σ 1 k < σ 1 p) (h3 : σ 3 k = σ 3 p) (h4 : sLives σ k < 3) : (sYounger σ k p && decide (sLives σ k < 3)) = true := by
  simp [sBro] at h1
  simp [sYounger, h1.2, h2, h3, h4]
theorem sHeirTo_new {σ : St} {p k : Nat} (h : (sYounger σ k p && decide (sLives σ k < 3)) = true) (ho : none = sHeirTo σ p k) : some k = sHeirTo σ p (k + 1) := by
  rw [sHeirTo, ← ho, if_pos (by unfold sHeirC; rw [h]; rfl)]
theorem sHeirTo_hi {σ : St} {p k e : Nat} (h : (sYounger σ k p && decide (sLives σ k < 3)) = true) (ho : some e = sHeirTo σ p k) (hl : σ 1 e < σ 1 k) : some k = sHeirTo σ p (k + 1) := by
  rw [sHeirTo, ← ho, if_pos (by unfold sHeirC; rw [h]; simp [hl])]
theorem sHeirTo_lo {σ : St} {p k e : Nat} (ho : some e = sHeirTo σ p k) (hl : ¬ σ 1 e < σ 1 k) : some e = sHeirTo σ p (k + 1) := by
  rw [sHeirTo, ← ho, if_neg (by unfold sHeirC; simp [hl])]
set_option maxHeartbeats 4000000 in
set_option maxRecDepth 20000 in
theorem c_X11_heir {h : eH} {n a p : Nat} {σ : St} (hA : eRow h a σ) (hK : eOK σ) (hp : p < 12) : kX11_heir [.ref a, .int (nI p)] h n (.inl (some (.int (oI (sHeir σ p)))), (· = h), some n) 0 0 := by
  refine eM.of RX11 "heir" [(0, .ref a), (1, .int (nI p))] pn_X11 rfl rfl (Nat.le_of_ble_eq_true rfl) rfl ?_
  have hB : eB σ := hK.1
  have h12 := hK.2.1
  have h40 := hK.2.2.1
  have hlv := hK.lives
  refine ev_iconst (v := -1) dX11_heir_0 (by decide) ?_
  refine ev_istore_n dX11_heir_1 rfl (Nat.le_of_ble_eq_true rfl) ?_
  refine ev_iconst (v := nI 0) dX11_heir_2 rfl ?_
  refine ev_istore_n dX11_heir_3 rfl (Nat.le_of_ble_eq_true rfl) ?_
  have H_4 : ∀ (d_4 : Nat) (k : Nat) (o : Option Nat), d_4 = σ 0 0 - k → (k ≤ σ 0 0) → (o = sHeirTo σ p k) → eV mX11_heir 4 [(0, .ref a), (1, .int (nI p)), (2, .int (oI o)), (3, .int (nI k))] [] (h, n, 0, 0) (.inl (some (.int (oI (sHeir σ p)))), (· = h), some n) 0 0 := by
    intro d_4
    induction d_4 using Nat.strongRecOn with
    | _ d_4 ih_4 =>
    intro k o hd_4 hk ho
    refine ev_iload_n dX11_heir_4 rfl rfl ?_
    refine ev_aload_n dX11_heir_5 rfl rfl ?_
    refine ev_sipush (v := nI 380) dX11_heir_6 rfl ?_
    first | refine ev_rowG (f := 0) (j := 0) dX11_heir_9 (by assumption) (Nat.le_of_ble_eq_true rfl) (fun _ => rfl) ?_ | refine ev_ialoadA dX11_heir_9 (by first | assumption | omega | exact ePp.ob (by assumption) | exact eNm.ob (by assumption) | exact eRg.ob (by assumption) | exact eTx.ob (by assumption) | exact ePa.ob (by assumption)) (by first | assumption | omega | exact ePp.ob (by assumption) | exact eNm.ob (by assumption) | exact eRg.ob (by assumption) | exact eTx.ob (by assumption) | exact ePa.ob (by assumption)) ?_
    first | ((with_reducible show eV _ _ _ (Value.int (nI _) :: Value.int (nI _) :: _) _ _ _ _); refine ev_icmp_geN (tgt := 107) dX11_heir_10 (by decide) (by first | exact hB _ _ | omega | exact Nat.lt_of_le_of_lt (hlv _) (by decide)) (by first | exact hB _ _ | omega | exact Nat.lt_of_le_of_lt (hlv _) (by decide)) (fun c_10 => ?_) (fun c_10 => ?_)) | ((with_reducible show eV _ _ _ (Value.int (nI _) :: _) _ _ _ _); refine ev_icmp_geZN (tgt := 107) dX11_heir_10 (by decide) (by first | exact hB _ _ | omega | exact Nat.lt_of_le_of_lt (hlv _) (by decide)) (fun c_10 => ?_) (fun c_10 => ?_)) | ((with_reducible show eV _ _ _ (_ :: Value.int (nI _) :: _) _ _ _ _); refine ev_icmp_geNZ (tgt := 107) dX11_heir_10 (by decide) (by first | exact hB _ _ | omega | exact Nat.lt_of_le_of_lt (hlv _) (by decide)) (fun c_10 => ?_) (fun c_10 => ?_)) | (refine ev_icmp_geZZ (tgt := 107) dX11_heir_10 (by decide) (fun c_10 => ?_) (fun c_10 => ?_))
    · refine ev_iload_n dX11_heir_107 rfl rfl ?_
      exact ev_iret dX11_heir_108 rfl rfl (by exact bRo (by have e : k = σ 0 0 := (by omega); rw [sHeir, ← e]; exact ho.symm)) (by rfl) (fun _ e => by first | exact Option.some.inj e | (have e2 := Option.some.inj e; omega)) (by first | exact Nat.le_of_ble_eq_true rfl | omega) (by first | exact Nat.le_of_ble_eq_true rfl | omega)
    · refine ev_aload_n dX11_heir_13 rfl rfl ?_
      refine ev_iload_n dX11_heir_14 rfl rfl ?_
      refine ev_iload_n dX11_heir_15 rfl rfl ?_
      refine ev_callSi dX11_heir_16 (c_X11_areBrothers hA hB hp (by omega)) lk_X11_76 ⟨Nat.le_of_ble_eq_true rfl, Nat.le_of_ble_eq_true rfl⟩ rfl (Nat.le_of_ble_eq_true rfl) ⟨by first | exact Nat.le_of_ble_eq_true rfl | omega, by first | exact Nat.le_of_ble_eq_true rfl | omega⟩ (eRo ?_)
      first | ((with_reducible show eV _ _ _ (Value.int (bI _) :: _) _ _ _ _); refine ev_if_eqB (tgt := 65) dX11_heir_19 (by decide) (fun c_19 => ?_) (fun c_19 => ?_)) | ((with_reducible show eV _ _ _ (Value.int (nI _) :: _) _ _ _ _); refine ev_if_eqN (tgt := 65) dX11_heir_19 (by decide) (by first | exact hB _ _ | omega | exact Nat.lt_of_le_of_lt (hlv _) (by decide)) (fun c_19 => ?_) (fun c_19 => ?_)) | (refine ev_if_eqZ (tgt := 65) dX11_heir_19 (by decide) (fun c_19 => ?_) (fun c_19 => ?_))
      · refine ev_iconst (v := nI 0) dX11_heir_65 rfl ?_
        refine ev_istore dX11_heir_66 (Nat.le_of_ble_eq_true rfl) ?_
        refine ev_iload dX11_heir_68 rfl ?_
        refine ev_if_eqN (tgt := 99) dX11_heir_70 (by decide) (by decide) (fun _ => ?_) (fun c => absurd rfl c)
        refine ev_iload_n dX11_heir_99 rfl rfl ?_
        refine ev_istore_n dX11_heir_100 rfl (Nat.le_of_ble_eq_true rfl) ?_
        first | refine ev_iincN dX11_heir_101 rfl (Nat.le_of_ble_eq_true rfl) ?_ | refine ev_iinc dX11_heir_101 rfl rfl (Nat.le_of_ble_eq_true rfl) ?_
        refine ev_goto (tgt := 4) dX11_heir_104 (by decide) ?_
        first | (exact (ih_4 _ (by omega) (k + 1) (some k) rfl (by first | omega | assumption | rfl) (by first | exact sHeirTo_new hcan ho | exact sHeirTo_hi hcan ho c_92 | exact sHeirTo_lo ho (Nat.not_lt.mpr c_92) | exact sHeirC_no (by first | (simp [show ¬ sLives σ k < 3 by omega]) | (simp [c_49]) | (simp [show ¬ σ 1 k < σ 1 p by omega]) | (simp [c_19])) ho)).sub1 ⟨rfl, rfl, rfl, rfl, trivial⟩ rfl) | (exact (ih_4 _ (by omega) (k + 1) none rfl (by first | omega | assumption | rfl) (by first | exact sHeirTo_new hcan ho | exact sHeirTo_hi hcan ho c_92 | exact sHeirTo_lo ho (Nat.not_lt.mpr c_92) | exact sHeirC_no (by first | (simp [show ¬ sLives σ k < 3 by omega]) | (simp [c_49]) | (simp [show ¬ σ 1 k < σ 1 p by omega]) | (simp [c_19])) ho)).sub1 ⟨rfl, rfl, rfl, rfl, trivial⟩ rfl) | (exact (ih_4 _ (by omega) (k + 1) (some e) rfl (by first | omega | assumption | rfl) (by first | exact sHeirTo_new hcan ho | exact sHeirTo_hi hcan ho c_92 | exact sHeirTo_lo ho (Nat.not_lt.mpr c_92) | exact sHeirC_no (by first | (simp [show ¬ sLives σ k < 3 by omega]) | (simp [c_49]) | (simp [show ¬ σ 1 k < σ 1 p by omega]) | (simp [c_19])) ho)).sub1 ⟨rfl, rfl, rfl, rfl, trivial⟩ rfl) | (exact (ih_4 _ (by omega) (k + 1) o rfl (by first | omega | assumption | rfl) (by first | exact sHeirTo_new hcan ho | exact sHeirTo_hi hcan ho c_92 | exact sHeirTo_lo ho (Nat.not_lt.mpr c_92) | exact sHeirC_no (by first | (simp [show ¬ sLives σ k < 3 by omega]) | (simp [c_49]) | (simp [show ¬ σ 1 k < σ 1 p by omega]) | (simp [c_19])) ho)).sub1 ⟨rfl, rfl, rfl, rfl, trivial⟩ rfl)
      · refine ev_aload_n dX11_heir_22 rfl rfl ?_
        refine ev_iconst (v := nI 5) dX11_heir_23 rfl ?_
        refine ev_iload_n dX11_heir_24 rfl rfl ?_
        first | refine ev_imulN dX11_heir_25 ?_ | refine ev_imul dX11_heir_25 ?_
        refine ev_iconst (v := nI 0) dX11_heir_26 rfl ?_
        first | refine ev_iaddN dX11_heir_27 ?_ | refine ev_iadd dX11_heir_27 ?_
        first | refine ev_rowN (f := 0) (F := 6) dX11_heir_28 (by assumption) (by first | assumption | omega | exact ePp.ob (by assumption) | exact eNm.ob (by assumption) | exact eRg.ob (by assumption) | exact eTx.ob (by assumption) | exact ePa.ob (by assumption)) (by decide) rfl ?_ | refine ev_rowP (f := 0) (F := 1) dX11_heir_28 (by assumption) (by first | assumption | omega | exact ePp.ob (by assumption) | exact eNm.ob (by assumption) | exact eRg.ob (by assumption) | exact eTx.ob (by assumption) | exact ePa.ob (by assumption)) (by decide) rfl ?_ | refine ev_ialoadA dX11_heir_28 (by first | assumption | omega | exact ePp.ob (by assumption) | exact eNm.ob (by assumption) | exact eRg.ob (by assumption) | exact eTx.ob (by assumption) | exact ePa.ob (by assumption)) (by first | assumption | omega | exact ePp.ob (by assumption) | exact eNm.ob (by assumption) | exact eRg.ob (by assumption) | exact eTx.ob (by assumption) | exact ePa.ob (by assumption)) ?_
        refine ev_aload_n dX11_heir_29 rfl rfl ?_
        refine ev_iconst (v := nI 5) dX11_heir_30 rfl ?_
        refine ev_iload_n dX11_heir_31 rfl rfl ?_
        first | refine ev_imulN dX11_heir_32 ?_ | refine ev_imul dX11_heir_32 ?_
        refine ev_iconst (v := nI 0) dX11_heir_33 rfl ?_
        first | refine ev_iaddN dX11_heir_34 ?_ | refine ev_iadd dX11_heir_34 ?_
        first | refine ev_rowN (f := 0) (F := 6) dX11_heir_35 (by assumption) (by first | assumption | omega | exact ePp.ob (by assumption) | exact eNm.ob (by assumption) | exact eRg.ob (by assumption) | exact eTx.ob (by assumption) | exact ePa.ob (by assumption)) (by decide) rfl ?_ | refine ev_rowP (f := 0) (F := 1) dX11_heir_35 (by assumption) (by first | assumption | omega | exact ePp.ob (by assumption) | exact eNm.ob (by assumption) | exact eRg.ob (by assumption) | exact eTx.ob (by assumption) | exact ePa.ob (by assumption)) (by decide) rfl ?_ | refine ev_ialoadA dX11_heir_35 (by first | assumption | omega | exact ePp.ob (by assumption) | exact eNm.ob (by assumption) | exact eRg.ob (by assumption) | exact eTx.ob (by assumption) | exact ePa.ob (by assumption)) (by first | assumption | omega | exact ePp.ob (by assumption) | exact eNm.ob (by assumption) | exact eRg.ob (by assumption) | exact eTx.ob (by assumption) | exact ePa.ob (by assumption)) ?_
        first | ((with_reducible show eV _ _ _ (Value.int (nI _) :: Value.int (nI _) :: _) _ _ _ _); refine ev_icmp_geN (tgt := 65) dX11_heir_36 (by decide) (by first | exact hB _ _ | omega | exact Nat.lt_of_le_of_lt (hlv _) (by decide)) (by first | exact hB _ _ | omega | exact Nat.lt_of_le_of_lt (hlv _) (by decide)) (fun c_36 => ?_) (fun c_36 => ?_)) | ((with_reducible show eV _ _ _ (Value.int (nI _) :: _) _ _ _ _); refine ev_icmp_geZN (tgt := 65) dX11_heir_36 (by decide) (by first | exact hB _ _ | omega | exact Nat.lt_of_le_of_lt (hlv _) (by decide)) (fun c_36 => ?_) (fun c_36 => ?_)) | ((with_reducible show eV _ _ _ (_ :: Value.int (nI _) :: _) _ _ _ _); refine ev_icmp_geNZ (tgt := 65) dX11_heir_36 (by decide) (by first | exact hB _ _ | omega | exact Nat.lt_of_le_of_lt (hlv _) (by decide)) (fun c_36 => ?_) (fun c_36 => ?_)) | (refine ev_icmp_geZZ (tgt := 65) dX11_heir_36 (by decide) (fun c_36 => ?_) (fun c_36 => ?_))
        · refine ev_iconst (v := nI 0) dX11_heir_65 rfl ?_
          refine ev_istore dX11_heir_66 (Nat.le_of_ble_eq_true rfl) ?_
          refine ev_iload dX11_heir_68 rfl ?_
          refine ev_if_eqN (tgt := 99) dX11_heir_70 (by decide) (by decide) (fun _ => ?_) (fun c => absurd rfl c)
          refine ev_iload_n dX11_heir_99 rfl rfl ?_
          refine ev_istore_n dX11_heir_100 rfl (Nat.le_of_ble_eq_true rfl) ?_
          first | refine ev_iincN dX11_heir_101 rfl (Nat.le_of_ble_eq_true rfl) ?_ | refine ev_iinc dX11_heir_101 rfl rfl (Nat.le_of_ble_eq_true rfl) ?_
          refine ev_goto (tgt := 4) dX11_heir_104 (by decide) ?_
          first | (exact (ih_4 _ (by omega) (k + 1) (some k) rfl (by first | omega | assumption | rfl) (by first | exact sHeirTo_new hcan ho | exact sHeirTo_hi hcan ho c_92 | exact sHeirTo_lo ho (Nat.not_lt.mpr c_92) | exact sHeirC_no (by first | (simp [show ¬ sLives σ k < 3 by omega]) | (simp [c_49]) | (simp [show ¬ σ 1 k < σ 1 p by omega]) | (simp [c_19])) ho)).sub1 ⟨rfl, rfl, rfl, rfl, trivial⟩ rfl) | (exact (ih_4 _ (by omega) (k + 1) none rfl (by first | omega | assumption | rfl) (by first | exact sHeirTo_new hcan ho | exact sHeirTo_hi hcan ho c_92 | exact sHeirTo_lo ho (Nat.not_lt.mpr c_92) | exact sHeirC_no (by first | (simp [show ¬ sLives σ k < 3 by omega]) | (simp [c_49]) | (simp [show ¬ σ 1 k < σ 1 p by omega]) | (simp [c_19])) ho)).sub1 ⟨rfl, rfl, rfl, rfl, trivial⟩ rfl) | (exact (ih_4 _ (by omega) (k + 1) (some e) rfl (by first | omega | assumption | rfl) (by first | exact sHeirTo_new hcan ho | exact sHeirTo_hi hcan ho c_92 | exact sHeirTo_lo ho (Nat.not_lt.mpr c_92) | exact sHeirC_no (by first | (simp [show ¬ sLives σ k < 3 by omega]) | (simp [c_49]) | (simp [show ¬ σ 1 k < σ 1 p by omega]) | (simp [c_19])) ho)).sub1 ⟨rfl, rfl, rfl, rfl, trivial⟩ rfl) | (exact (ih_4 _ (by omega) (k + 1) o rfl (by first | omega | assumption | rfl) (by first | exact sHeirTo_new hcan ho | exact sHeirTo_hi hcan ho c_92 | exact sHeirTo_lo ho (Nat.not_lt.mpr c_92) | exact sHeirC_no (by first | (simp [show ¬ sLives σ k < 3 by omega]) | (simp [c_49]) | (simp [show ¬ σ 1 k < σ 1 p by omega]) | (simp [c_19])) ho)).sub1 ⟨rfl, rfl, rfl, rfl, trivial⟩ rfl)
        · refine ev_aload_n dX11_heir_39 rfl rfl ?_
          refine ev_iload_n dX11_heir_40 rfl rfl ?_
          refine ev_callSi dX11_heir_41 (c_X11_benchOf hA (by omega)) lk_X11_72 ⟨Nat.le_of_ble_eq_true rfl, Nat.le_of_ble_eq_true rfl⟩ rfl (Nat.le_of_ble_eq_true rfl) ⟨by first | exact Nat.le_of_ble_eq_true rfl | omega, by first | exact Nat.le_of_ble_eq_true rfl | omega⟩ (eRo ?_)
          refine ev_aload_n dX11_heir_44 rfl rfl ?_
          refine ev_iload_n dX11_heir_45 rfl rfl ?_
          refine ev_callSi dX11_heir_46 (c_X11_benchOf hA hp) lk_X11_72 ⟨Nat.le_of_ble_eq_true rfl, Nat.le_of_ble_eq_true rfl⟩ rfl (Nat.le_of_ble_eq_true rfl) ⟨by first | exact Nat.le_of_ble_eq_true rfl | omega, by first | exact Nat.le_of_ble_eq_true rfl | omega⟩ (eRo ?_)
          first | ((with_reducible show eV _ _ _ (Value.int (nI _) :: Value.int (nI _) :: _) _ _ _ _); refine ev_icmp_neN (tgt := 65) dX11_heir_49 (by decide) (by first | exact hB _ _ | omega | exact Nat.lt_of_le_of_lt (hlv _) (by decide)) (by first | exact hB _ _ | omega | exact Nat.lt_of_le_of_lt (hlv _) (by decide)) (fun c_49 => ?_) (fun c_49 => ?_)) | ((with_reducible show eV _ _ _ (Value.int (-1) :: Value.int (oI _) :: _) _ _ _ _); refine ev_icmp_neO (tgt := 65) dX11_heir_49 (by decide) (by (intro k9 h9; have := sHeirTo_lt (ho ▸ h9); omega)) (fun c_49 => ?_) (fun c_49 => ?_)) | ((with_reducible show eV _ _ _ (Value.int (nI _) :: Value.int (oI _) :: _) _ _ _ _); refine ev_icmp_neON (tgt := 65) dX11_heir_49 (by decide) (by first | exact hB _ _ | omega | exact Nat.lt_of_le_of_lt (hlv _) (by decide)) (by (intro k9 h9; have := sHeirTo_lt (ho ▸ h9); omega)) (fun c_49 => ?_) (fun c_49 => ?_)) | ((with_reducible show eV _ _ _ (Value.int (nI _) :: _) _ _ _ _); refine ev_icmp_neZN (tgt := 65) dX11_heir_49 (by decide) (by first | exact hB _ _ | omega | exact Nat.lt_of_le_of_lt (hlv _) (by decide)) (fun c_49 => ?_) (fun c_49 => ?_)) | ((with_reducible show eV _ _ _ (_ :: Value.int (nI _) :: _) _ _ _ _); refine ev_icmp_neNZ (tgt := 65) dX11_heir_49 (by decide) (by first | exact hB _ _ | omega | exact Nat.lt_of_le_of_lt (hlv _) (by decide)) (fun c_49 => ?_) (fun c_49 => ?_)) | (refine ev_icmp_neZZ (tgt := 65) dX11_heir_49 (by decide) (fun c_49 => ?_) (fun c_49 => ?_))
          · refine ev_iconst (v := nI 0) dX11_heir_65 rfl ?_
            refine ev_istore dX11_heir_66 (Nat.le_of_ble_eq_true rfl) ?_
            refine ev_iload dX11_heir_68 rfl ?_
            refine ev_if_eqN (tgt := 99) dX11_heir_70 (by decide) (by decide) (fun _ => ?_) (fun c => absurd rfl c)
            refine ev_iload_n dX11_heir_99 rfl rfl ?_
            refine ev_istore_n dX11_heir_100 rfl (Nat.le_of_ble_eq_true rfl) ?_
            first | refine ev_iincN dX11_heir_101 rfl (Nat.le_of_ble_eq_true rfl) ?_ | refine ev_iinc dX11_heir_101 rfl rfl (Nat.le_of_ble_eq_true rfl) ?_
            refine ev_goto (tgt := 4) dX11_heir_104 (by decide) ?_
            first | (exact (ih_4 _ (by omega) (k + 1) (some k) rfl (by first | omega | assumption | rfl) (by first | exact sHeirTo_new hcan ho | exact sHeirTo_hi hcan ho c_92 | exact sHeirTo_lo ho (Nat.not_lt.mpr c_92) | exact sHeirC_no (by first | (simp [show ¬ sLives σ k < 3 by omega]) | (simp [c_49]) | (simp [show ¬ σ 1 k < σ 1 p by omega]) | (simp [c_19])) ho)).sub1 ⟨rfl, rfl, rfl, rfl, trivial⟩ rfl) | (exact (ih_4 _ (by omega) (k + 1) none rfl (by first | omega | assumption | rfl) (by first | exact sHeirTo_new hcan ho | exact sHeirTo_hi hcan ho c_92 | exact sHeirTo_lo ho (Nat.not_lt.mpr c_92) | exact sHeirC_no (by first | (simp [show ¬ sLives σ k < 3 by omega]) | (simp [c_49]) | (simp [show ¬ σ 1 k < σ 1 p by omega]) | (simp [c_19])) ho)).sub1 ⟨rfl, rfl, rfl, rfl, trivial⟩ rfl) | (exact (ih_4 _ (by omega) (k + 1) (some e) rfl (by first | omega | assumption | rfl) (by first | exact sHeirTo_new hcan ho | exact sHeirTo_hi hcan ho c_92 | exact sHeirTo_lo ho (Nat.not_lt.mpr c_92) | exact sHeirC_no (by first | (simp [show ¬ sLives σ k < 3 by omega]) | (simp [c_49]) | (simp [show ¬ σ 1 k < σ 1 p by omega]) | (simp [c_19])) ho)).sub1 ⟨rfl, rfl, rfl, rfl, trivial⟩ rfl) | (exact (ih_4 _ (by omega) (k + 1) o rfl (by first | omega | assumption | rfl) (by first | exact sHeirTo_new hcan ho | exact sHeirTo_hi hcan ho c_92 | exact sHeirTo_lo ho (Nat.not_lt.mpr c_92) | exact sHeirC_no (by first | (simp [show ¬ sLives σ k < 3 by omega]) | (simp [c_49]) | (simp [show ¬ σ 1 k < σ 1 p by omega]) | (simp [c_19])) ho)).sub1 ⟨rfl, rfl, rfl, rfl, trivial⟩ rfl)
          · refine ev_aload_n dX11_heir_52 rfl rfl ?_
            refine ev_iload_n dX11_heir_53 rfl rfl ?_
            refine ev_callSi dX11_heir_54 (c_X11_lives hA hB h40 (by omega)) lk_X11_80 ⟨Nat.le_of_ble_eq_true rfl, Nat.le_of_ble_eq_true rfl⟩ rfl (Nat.le_of_ble_eq_true rfl) ⟨by first | exact Nat.le_of_ble_eq_true rfl | omega, by first | exact Nat.le_of_ble_eq_true rfl | omega⟩ (eRo ?_)
            refine ev_iconst (v := nI 3) dX11_heir_57 rfl ?_
            first | ((with_reducible show eV _ _ _ (Value.int (nI _) :: Value.int (nI _) :: _) _ _ _ _); refine ev_icmp_geN (tgt := 65) dX11_heir_58 (by decide) (by first | exact hB _ _ | omega | exact Nat.lt_of_le_of_lt (hlv _) (by decide)) (by first | exact hB _ _ | omega | exact Nat.lt_of_le_of_lt (hlv _) (by decide)) (fun c_58 => ?_) (fun c_58 => ?_)) | ((with_reducible show eV _ _ _ (Value.int (nI _) :: _) _ _ _ _); refine ev_icmp_geZN (tgt := 65) dX11_heir_58 (by decide) (by first | exact hB _ _ | omega | exact Nat.lt_of_le_of_lt (hlv _) (by decide)) (fun c_58 => ?_) (fun c_58 => ?_)) | ((with_reducible show eV _ _ _ (_ :: Value.int (nI _) :: _) _ _ _ _); refine ev_icmp_geNZ (tgt := 65) dX11_heir_58 (by decide) (by first | exact hB _ _ | omega | exact Nat.lt_of_le_of_lt (hlv _) (by decide)) (fun c_58 => ?_) (fun c_58 => ?_)) | (refine ev_icmp_geZZ (tgt := 65) dX11_heir_58 (by decide) (fun c_58 => ?_) (fun c_58 => ?_))
            · refine ev_iconst (v := nI 0) dX11_heir_65 rfl ?_
              refine ev_istore dX11_heir_66 (Nat.le_of_ble_eq_true rfl) ?_
              refine ev_iload dX11_heir_68 rfl ?_
              refine ev_if_eqN (tgt := 99) dX11_heir_70 (by decide) (by decide) (fun _ => ?_) (fun c => absurd rfl c)
              refine ev_iload_n dX11_heir_99 rfl rfl ?_
              refine ev_istore_n dX11_heir_100 rfl (Nat.le_of_ble_eq_true rfl) ?_
              first | refine ev_iincN dX11_heir_101 rfl (Nat.le_of_ble_eq_true rfl) ?_ | refine ev_iinc dX11_heir_101 rfl rfl (Nat.le_of_ble_eq_true rfl) ?_
              refine ev_goto (tgt := 4) dX11_heir_104 (by decide) ?_
              first | (exact (ih_4 _ (by omega) (k + 1) (some k) rfl (by first | omega | assumption | rfl) (by first | exact sHeirTo_new hcan ho | exact sHeirTo_hi hcan ho c_92 | exact sHeirTo_lo ho (Nat.not_lt.mpr c_92) | exact sHeirC_no (by first | (simp [show ¬ sLives σ k < 3 by omega]) | (simp [c_49]) | (simp [show ¬ σ 1 k < σ 1 p by omega]) | (simp [c_19])) ho)).sub1 ⟨rfl, rfl, rfl, rfl, trivial⟩ rfl) | (exact (ih_4 _ (by omega) (k + 1) none rfl (by first | omega | assumption | rfl) (by first | exact sHeirTo_new hcan ho | exact sHeirTo_hi hcan ho c_92 | exact sHeirTo_lo ho (Nat.not_lt.mpr c_92) | exact sHeirC_no (by first | (simp [show ¬ sLives σ k < 3 by omega]) | (simp [c_49]) | (simp [show ¬ σ 1 k < σ 1 p by omega]) | (simp [c_19])) ho)).sub1 ⟨rfl, rfl, rfl, rfl, trivial⟩ rfl) | (exact (ih_4 _ (by omega) (k + 1) (some e) rfl (by first | omega | assumption | rfl) (by first | exact sHeirTo_new hcan ho | exact sHeirTo_hi hcan ho c_92 | exact sHeirTo_lo ho (Nat.not_lt.mpr c_92) | exact sHeirC_no (by first | (simp [show ¬ sLives σ k < 3 by omega]) | (simp [c_49]) | (simp [show ¬ σ 1 k < σ 1 p by omega]) | (simp [c_19])) ho)).sub1 ⟨rfl, rfl, rfl, rfl, trivial⟩ rfl) | (exact (ih_4 _ (by omega) (k + 1) o rfl (by first | omega | assumption | rfl) (by first | exact sHeirTo_new hcan ho | exact sHeirTo_hi hcan ho c_92 | exact sHeirTo_lo ho (Nat.not_lt.mpr c_92) | exact sHeirC_no (by first | (simp [show ¬ sLives σ k < 3 by omega]) | (simp [c_49]) | (simp [show ¬ σ 1 k < σ 1 p by omega]) | (simp [c_19])) ho)).sub1 ⟨rfl, rfl, rfl, rfl, trivial⟩ rfl)
            · have hcan := sHeirC_can c_19 c_36 c_49 c_58
              refine ev_iconst (v := nI 1) dX11_heir_61 rfl ?_
              refine ev_goto (tgt := 66) dX11_heir_62 (by decide) ?_
              refine ev_istore dX11_heir_66 (Nat.le_of_ble_eq_true rfl) ?_
              refine ev_iload dX11_heir_68 rfl ?_
              refine ev_if_eqN (tgt := 99) dX11_heir_70 (by decide) (by decide) (fun c => absurd c (by decide)) (fun _ => ?_)
              refine ev_iload_n dX11_heir_73 rfl rfl ?_
              refine ev_iconst (v := -1) dX11_heir_74 (by decide) ?_
              first | ((with_reducible show eV _ _ _ (Value.int (nI _) :: Value.int (nI _) :: _) _ _ _ _); refine ev_icmp_eqN (tgt := 95) dX11_heir_75 (by decide) (by first | exact hB _ _ | omega | exact Nat.lt_of_le_of_lt (hlv _) (by decide)) (by first | exact hB _ _ | omega | exact Nat.lt_of_le_of_lt (hlv _) (by decide)) (fun c_75 => ?_) (fun c_75 => ?_)) | ((with_reducible show eV _ _ _ (Value.int (-1) :: Value.int (oI _) :: _) _ _ _ _); refine ev_icmp_eqO (tgt := 95) dX11_heir_75 (by decide) (by (intro k9 h9; have := sHeirTo_lt (ho ▸ h9); omega)) (fun c_75 => ?_) (fun c_75 => ?_)) | ((with_reducible show eV _ _ _ (Value.int (oI _) :: Value.int (nI _) :: _) _ _ _ _); refine ev_icmp_eqNO (tgt := 95) dX11_heir_75 (by decide) (by first | exact hB _ _ | omega | exact Nat.lt_of_le_of_lt (hlv _) (by decide)) (by (intro k9 h9; have := sHeirTo_lt (ho ▸ h9); omega)) (fun c_75 => ?_) (fun c_75 => ?_)) | ((with_reducible show eV _ _ _ (Value.int (nI _) :: Value.int (oI _) :: _) _ _ _ _); refine ev_icmp_eqON (tgt := 95) dX11_heir_75 (by decide) (by first | exact hB _ _ | omega | exact Nat.lt_of_le_of_lt (hlv _) (by decide)) (by (intro k9 h9; have := sHeirTo_lt (ho ▸ h9); omega)) (fun c_75 => ?_) (fun c_75 => ?_)) | ((with_reducible show eV _ _ _ (Value.int (nI _) :: _) _ _ _ _); refine ev_icmp_eqZN (tgt := 95) dX11_heir_75 (by decide) (by first | exact hB _ _ | omega | exact Nat.lt_of_le_of_lt (hlv _) (by decide)) (fun c_75 => ?_) (fun c_75 => ?_)) | ((with_reducible show eV _ _ _ (_ :: Value.int (nI _) :: _) _ _ _ _); refine ev_icmp_eqNZ (tgt := 95) dX11_heir_75 (by decide) (by first | exact hB _ _ | omega | exact Nat.lt_of_le_of_lt (hlv _) (by decide)) (fun c_75 => ?_) (fun c_75 => ?_)) | (refine ev_icmp_eqZZ (tgt := 95) dX11_heir_75 (by decide) (fun c_75 => ?_) (fun c_75 => ?_))
              · try subst c_75
                refine ev_iload_n dX11_heir_95 rfl rfl ?_
                refine ev_goto (tgt := 100) dX11_heir_96 (by decide) ?_
                refine ev_istore_n dX11_heir_100 rfl (Nat.le_of_ble_eq_true rfl) ?_
                first | refine ev_iincN dX11_heir_101 rfl (Nat.le_of_ble_eq_true rfl) ?_ | refine ev_iinc dX11_heir_101 rfl rfl (Nat.le_of_ble_eq_true rfl) ?_
                refine ev_goto (tgt := 4) dX11_heir_104 (by decide) ?_
                first | (exact (ih_4 _ (by omega) (k + 1) (some k) rfl (by first | omega | assumption | rfl) (by first | exact sHeirTo_new hcan ho | exact sHeirTo_hi hcan ho c_92 | exact sHeirTo_lo ho (Nat.not_lt.mpr c_92) | exact sHeirC_no (by first | (simp [show ¬ sLives σ k < 3 by omega]) | (simp [c_49]) | (simp [show ¬ σ 1 k < σ 1 p by omega]) | (simp [c_19])) ho)).sub1 ⟨rfl, rfl, rfl, rfl, trivial⟩ rfl) | (exact (ih_4 _ (by omega) (k + 1) none rfl (by first | omega | assumption | rfl) (by first | exact sHeirTo_new hcan ho | exact sHeirTo_hi hcan ho c_92 | exact sHeirTo_lo ho (Nat.not_lt.mpr c_92) | exact sHeirC_no (by first | (simp [show ¬ sLives σ k < 3 by omega]) | (simp [c_49]) | (simp [show ¬ σ 1 k < σ 1 p by omega]) | (simp [c_19])) ho)).sub1 ⟨rfl, rfl, rfl, rfl, trivial⟩ rfl) | (exact (ih_4 _ (by omega) (k + 1) (some e) rfl (by first | omega | assumption | rfl) (by first | exact sHeirTo_new hcan ho | exact sHeirTo_hi hcan ho c_92 | exact sHeirTo_lo ho (Nat.not_lt.mpr c_92) | exact sHeirC_no (by first | (simp [show ¬ sLives σ k < 3 by omega]) | (simp [c_49]) | (simp [show ¬ σ 1 k < σ 1 p by omega]) | (simp [c_19])) ho)).sub1 ⟨rfl, rfl, rfl, rfl, trivial⟩ rfl) | (exact (ih_4 _ (by omega) (k + 1) o rfl (by first | omega | assumption | rfl) (by first | exact sHeirTo_new hcan ho | exact sHeirTo_hi hcan ho c_92 | exact sHeirTo_lo ho (Nat.not_lt.mpr c_92) | exact sHeirC_no (by first | (simp [show ¬ sLives σ k < 3 by omega]) | (simp [c_49]) | (simp [show ¬ σ 1 k < σ 1 p by omega]) | (simp [c_19])) ho)).sub1 ⟨rfl, rfl, rfl, rfl, trivial⟩ rfl)
              · try subst c_75
                obtain ⟨e, rfl⟩ := Option.ne_none_iff_exists'.mp c_75
                rw [show oI (some e) = nI e from rfl]
                have hek := sHeirTo_lt ho.symm
                refine ev_aload_n dX11_heir_78 rfl rfl ?_
                refine ev_iconst (v := nI 5) dX11_heir_79 rfl ?_
                refine ev_iload_n dX11_heir_80 rfl rfl ?_
                first | refine ev_imulN dX11_heir_81 ?_ | refine ev_imul dX11_heir_81 ?_
                refine ev_iconst (v := nI 0) dX11_heir_82 rfl ?_
                first | refine ev_iaddN dX11_heir_83 ?_ | refine ev_iadd dX11_heir_83 ?_
                first | refine ev_rowN (f := 0) (F := 6) dX11_heir_84 (by assumption) (by first | assumption | omega | exact ePp.ob (by assumption) | exact eNm.ob (by assumption) | exact eRg.ob (by assumption) | exact eTx.ob (by assumption) | exact ePa.ob (by assumption)) (by decide) rfl ?_ | refine ev_rowP (f := 0) (F := 1) dX11_heir_84 (by assumption) (by first | assumption | omega | exact ePp.ob (by assumption) | exact eNm.ob (by assumption) | exact eRg.ob (by assumption) | exact eTx.ob (by assumption) | exact ePa.ob (by assumption)) (by decide) rfl ?_ | refine ev_ialoadA dX11_heir_84 (by first | assumption | omega | exact ePp.ob (by assumption) | exact eNm.ob (by assumption) | exact eRg.ob (by assumption) | exact eTx.ob (by assumption) | exact ePa.ob (by assumption)) (by first | assumption | omega | exact ePp.ob (by assumption) | exact eNm.ob (by assumption) | exact eRg.ob (by assumption) | exact eTx.ob (by assumption) | exact ePa.ob (by assumption)) ?_
                refine ev_aload_n dX11_heir_85 rfl rfl ?_
                refine ev_iconst (v := nI 5) dX11_heir_86 rfl ?_
                refine ev_iload_n dX11_heir_87 rfl rfl ?_
                first | refine ev_imulN dX11_heir_88 ?_ | refine ev_imul dX11_heir_88 ?_
                refine ev_iconst (v := nI 0) dX11_heir_89 rfl ?_
                first | refine ev_iaddN dX11_heir_90 ?_ | refine ev_iadd dX11_heir_90 ?_
                first | refine ev_rowN (f := 0) (F := 6) dX11_heir_91 (by assumption) (by first | assumption | omega | exact ePp.ob (by assumption) | exact eNm.ob (by assumption) | exact eRg.ob (by assumption) | exact eTx.ob (by assumption) | exact ePa.ob (by assumption)) (by decide) rfl ?_ | refine ev_rowP (f := 0) (F := 1) dX11_heir_91 (by assumption) (by first | assumption | omega | exact ePp.ob (by assumption) | exact eNm.ob (by assumption) | exact eRg.ob (by assumption) | exact eTx.ob (by assumption) | exact ePa.ob (by assumption)) (by decide) rfl ?_ | refine ev_ialoadA dX11_heir_91 (by first | assumption | omega | exact ePp.ob (by assumption) | exact eNm.ob (by assumption) | exact eRg.ob (by assumption) | exact eTx.ob (by assumption) | exact ePa.ob (by assumption)) (by first | assumption | omega | exact ePp.ob (by assumption) | exact eNm.ob (by assumption) | exact eRg.ob (by assumption) | exact eTx.ob (by assumption) | exact ePa.ob (by assumption)) ?_
                first | ((with_reducible show eV _ _ _ (Value.int (nI _) :: Value.int (nI _) :: _) _ _ _ _); refine ev_icmp_leN (tgt := 99) dX11_heir_92 (by decide) (by first | exact hB _ _ | omega | exact Nat.lt_of_le_of_lt (hlv _) (by decide)) (by first | exact hB _ _ | omega | exact Nat.lt_of_le_of_lt (hlv _) (by decide)) (fun c_92 => ?_) (fun c_92 => ?_)) | ((with_reducible show eV _ _ _ (Value.int (nI _) :: _) _ _ _ _); refine ev_icmp_leZN (tgt := 99) dX11_heir_92 (by decide) (by first | exact hB _ _ | omega | exact Nat.lt_of_le_of_lt (hlv _) (by decide)) (fun c_92 => ?_) (fun c_92 => ?_)) | ((with_reducible show eV _ _ _ (_ :: Value.int (nI _) :: _) _ _ _ _); refine ev_icmp_leNZ (tgt := 99) dX11_heir_92 (by decide) (by first | exact hB _ _ | omega | exact Nat.lt_of_le_of_lt (hlv _) (by decide)) (fun c_92 => ?_) (fun c_92 => ?_)) | (refine ev_icmp_leZZ (tgt := 99) dX11_heir_92 (by decide) (fun c_92 => ?_) (fun c_92 => ?_))
                · refine ev_iload_n dX11_heir_99 rfl rfl ?_
                  refine ev_istore_n dX11_heir_100 rfl (Nat.le_of_ble_eq_true rfl) ?_
                  first | refine ev_iincN dX11_heir_101 rfl (Nat.le_of_ble_eq_true rfl) ?_ | refine ev_iinc dX11_heir_101 rfl rfl (Nat.le_of_ble_eq_true rfl) ?_
                  refine ev_goto (tgt := 4) dX11_heir_104 (by decide) ?_
                  first | (exact (ih_4 _ (by omega) (k + 1) (some k) rfl (by first | omega | assumption | rfl) (by first | exact sHeirTo_new hcan ho | exact sHeirTo_hi hcan ho c_92 | exact sHeirTo_lo ho (Nat.not_lt.mpr c_92) | exact sHeirC_no (by first | (simp [show ¬ sLives σ k < 3 by omega]) | (simp [c_49]) | (simp [show ¬ σ 1 k < σ 1 p by omega]) | (simp [c_19])) ho)).sub1 ⟨rfl, rfl, rfl, rfl, trivial⟩ rfl) | (exact (ih_4 _ (by omega) (k + 1) none rfl (by first | omega | assumption | rfl) (by first | exact sHeirTo_new hcan ho | exact sHeirTo_hi hcan ho c_92 | exact sHeirTo_lo ho (Nat.not_lt.mpr c_92) | exact sHeirC_no (by first | (simp [show ¬ sLives σ k < 3 by omega]) | (simp [c_49]) | (simp [show ¬ σ 1 k < σ 1 p by omega]) | (simp [c_19])) ho)).sub1 ⟨rfl, rfl, rfl, rfl, trivial⟩ rfl) | (exact (ih_4 _ (by omega) (k + 1) (some e) rfl (by first | omega | assumption | rfl) (by first | exact sHeirTo_new hcan ho | exact sHeirTo_hi hcan ho c_92 | exact sHeirTo_lo ho (Nat.not_lt.mpr c_92) | exact sHeirC_no (by first | (simp [show ¬ sLives σ k < 3 by omega]) | (simp [c_49]) | (simp [show ¬ σ 1 k < σ 1 p by omega]) | (simp [c_19])) ho)).sub1 ⟨rfl, rfl, rfl, rfl, trivial⟩ rfl) | (exact (ih_4 _ (by omega) (k + 1) o rfl (by first | omega | assumption | rfl) (by first | exact sHeirTo_new hcan ho | exact sHeirTo_hi hcan ho c_92 | exact sHeirTo_lo ho (Nat.not_lt.mpr c_92) | exact sHeirC_no (by first | (simp [show ¬ sLives σ k < 3 by omega]) | (simp [c_49]) | (simp [show ¬ σ 1 k < σ 1 p by omega]) | (simp [c_19])) ho)).sub1 ⟨rfl, rfl, rfl, rfl, trivial⟩ rfl)
                · refine ev_iload_n dX11_heir_95 rfl rfl ?_
                  refine ev_goto (tgt := 100) dX11_heir_96 (by decide) ?_
                  refine ev_istore_n dX11_heir_100 rfl (Nat.le_of_ble_eq_true rfl) ?_
                  first | refine ev_iincN dX11_heir_101 rfl (Nat.le_of_ble_eq_true rfl) ?_ | refine ev_iinc dX11_heir_101 rfl rfl (Nat.le_of_ble_eq_true rfl) ?_
                  refine ev_goto (tgt := 4) dX11_heir_104 (by decide) ?_
                  first | (exact (ih_4 _ (by omega) (k + 1) (some k) rfl (by first | omega | assumption | rfl) (by first | exact sHeirTo_new hcan ho | exact sHeirTo_hi hcan ho c_92 | exact sHeirTo_lo ho (Nat.not_lt.mpr c_92) | exact sHeirC_no (by first | (simp [show ¬ sLives σ k < 3 by omega]) | (simp [c_49]) | (simp [show ¬ σ 1 k < σ 1 p by omega]) | (simp [c_19])) ho)).sub1 ⟨rfl, rfl, rfl, rfl, trivial⟩ rfl) | (exact (ih_4 _ (by omega) (k + 1) none rfl (by first | omega | assumption | rfl) (by first | exact sHeirTo_new hcan ho | exact sHeirTo_hi hcan ho c_92 | exact sHeirTo_lo ho (Nat.not_lt.mpr c_92) | exact sHeirC_no (by first | (simp [show ¬ sLives σ k < 3 by omega]) | (simp [c_49]) | (simp [show ¬ σ 1 k < σ 1 p by omega]) | (simp [c_19])) ho)).sub1 ⟨rfl, rfl, rfl, rfl, trivial⟩ rfl) | (exact (ih_4 _ (by omega) (k + 1) (some e) rfl (by first | omega | assumption | rfl) (by first | exact sHeirTo_new hcan ho | exact sHeirTo_hi hcan ho c_92 | exact sHeirTo_lo ho (Nat.not_lt.mpr c_92) | exact sHeirC_no (by first | (simp [show ¬ sLives σ k < 3 by omega]) | (simp [c_49]) | (simp [show ¬ σ 1 k < σ 1 p by omega]) | (simp [c_19])) ho)).sub1 ⟨rfl, rfl, rfl, rfl, trivial⟩ rfl) | (exact (ih_4 _ (by omega) (k + 1) o rfl (by first | omega | assumption | rfl) (by first | exact sHeirTo_new hcan ho | exact sHeirTo_hi hcan ho c_92 | exact sHeirTo_lo ho (Nat.not_lt.mpr c_92) | exact sHeirC_no (by first | (simp [show ¬ sLives σ k < 3 by omega]) | (simp [c_49]) | (simp [show ¬ σ 1 k < σ 1 p by omega]) | (simp [c_19])) ho)).sub1 ⟨rfl, rfl, rfl, rfl, trivial⟩ rfl)
  exact (H_4 _ 0 none rfl (by first | omega | assumption | rfl) (by first | omega | assumption | rfl)).sub1 ⟨rfl, rfl, rfl, rfl, trivial⟩ rfl
set_option maxHeartbeats 4000000 in
set_option maxRecDepth 20000 in
theorem c_X11_inState {h : eH} {n a t : Nat} {σ : St} (hA : eRow h a σ) (hB : eB σ) (h40 : σ 0 1 ≤ 40) (ht : t < 2 ^ 31) : kX11_inState [.ref a, .int (nI t)] h n (.inl (some (.int (nI (sInState σ t)))), (· = h), some n) 0 0 := by
  refine eM.of RX11 "inState" [(0, .ref a), (1, .int (nI t))] pn_X11 rfl rfl (Nat.le_of_ble_eq_true rfl) rfl ?_
  refine ev_iconst (v := nI 0) dX11_inState_0 rfl ?_
  refine ev_istore_n dX11_inState_1 rfl (Nat.le_of_ble_eq_true rfl) ?_
  refine ev_iconst (v := nI 0) dX11_inState_2 rfl ?_
  refine ev_istore_n dX11_inState_3 rfl (Nat.le_of_ble_eq_true rfl) ?_
  have H_4 : ∀ (d_4 : Nat) (k f : Nat), d_4 = σ 0 1 - k → (k ≤ σ 0 1) → (f = cnt (fun k => decide (σ 12 k = t)) k) → eV mX11_inState 4 [(0, .ref a), (1, .int (nI t)), (2, .int (nI f)), (3, .int (nI k))] [] (h, n, 0, 0) (.inl (some (.int (nI (sInState σ t)))), (· = h), some n) 0 0 := by
    intro d_4
    induction d_4 using Nat.strongRecOn with
    | _ d_4 ih_4 =>
    intro k f hd_4 hk hf
    refine ev_iload_n dX11_inState_4 rfl rfl ?_
    refine ev_aload_n dX11_inState_5 rfl rfl ?_
    refine ev_sipush (v := nI 381) dX11_inState_6 rfl ?_
    first | refine ev_rowG (f := 0) (j := 1) dX11_inState_9 (by assumption) (Nat.le_of_ble_eq_true rfl) (fun _ => rfl) ?_ | refine ev_ialoadA dX11_inState_9 (by first | assumption | omega | exact ePp.ob (by assumption) | exact eNm.ob (by assumption) | exact eRg.ob (by assumption) | exact eTx.ob (by assumption) | exact ePa.ob (by assumption)) (by first | assumption | omega | exact ePp.ob (by assumption) | exact eNm.ob (by assumption) | exact eRg.ob (by assumption) | exact eTx.ob (by assumption) | exact ePa.ob (by assumption)) ?_
    first | ((with_reducible show eV _ _ _ (Value.int (nI _) :: Value.int (nI _) :: _) _ _ _ _); refine ev_icmp_geN (tgt := 40) dX11_inState_10 (by decide) (by first | exact hB _ _ | omega) (by first | exact hB _ _ | omega) (fun c_10 => ?_) (fun c_10 => ?_)) | ((with_reducible show eV _ _ _ (Value.int (nI _) :: _) _ _ _ _); refine ev_icmp_geZN (tgt := 40) dX11_inState_10 (by decide) (by first | exact hB _ _ | omega) (fun c_10 => ?_) (fun c_10 => ?_)) | ((with_reducible show eV _ _ _ (_ :: Value.int (nI _) :: _) _ _ _ _); refine ev_icmp_geNZ (tgt := 40) dX11_inState_10 (by decide) (by first | exact hB _ _ | omega) (fun c_10 => ?_) (fun c_10 => ?_)) | (refine ev_icmp_geZZ (tgt := 40) dX11_inState_10 (by decide) (fun c_10 => ?_) (fun c_10 => ?_))
    · refine ev_iload_n dX11_inState_40 rfl rfl ?_
      exact ev_iret dX11_inState_41 rfl rfl (by exact nR (by have e : k = σ 0 1 := (by omega); rw [sInState, hf, ← e])) (by rfl) (fun _ e => by first | exact Option.some.inj e | (have e2 := Option.some.inj e; omega)) (by first | exact Nat.le_of_ble_eq_true rfl | omega) (by first | exact Nat.le_of_ble_eq_true rfl | omega)
    · refine ev_iload_n dX11_inState_13 rfl rfl ?_
      refine ev_aload_n dX11_inState_14 rfl rfl ?_
      refine ev_iload_n dX11_inState_15 rfl rfl ?_
      refine ev_callSi dX11_inState_16 c_X11_spot lk_X11_61 ⟨Nat.le_of_ble_eq_true rfl, Nat.le_of_ble_eq_true rfl⟩ rfl (Nat.le_of_ble_eq_true rfl) ⟨by first | exact Nat.le_of_ble_eq_true rfl | omega, by first | exact Nat.le_of_ble_eq_true rfl | omega⟩ (eRo ?_)
      refine ev_bipush (v := nI 6) dX11_inState_19 rfl ?_
      first | refine ev_iaddN dX11_inState_21 ?_ | refine ev_iadd dX11_inState_21 ?_
      first | refine ev_rowN (f := 6) (F := 12) dX11_inState_22 (by assumption) (by first | assumption | omega | exact ePp.ob (by assumption) | exact eNm.ob (by assumption) | exact eRg.ob (by assumption) | exact eTx.ob (by assumption) | exact ePa.ob (by assumption)) (by decide) rfl ?_ | refine ev_ialoadA dX11_inState_22 (by first | assumption | omega | exact ePp.ob (by assumption) | exact eNm.ob (by assumption) | exact eRg.ob (by assumption) | exact eTx.ob (by assumption) | exact ePa.ob (by assumption)) (by first | assumption | omega | exact ePp.ob (by assumption) | exact eNm.ob (by assumption) | exact eRg.ob (by assumption) | exact eTx.ob (by assumption) | exact ePa.ob (by assumption)) ?_
      refine ev_iload_n dX11_inState_23 rfl rfl ?_
      first | ((with_reducible show eV _ _ _ (Value.int (nI _) :: Value.int (nI _) :: _) _ _ _ _); refine ev_icmp_neN (tgt := 31) dX11_inState_24 (by decide) (by first | exact hB _ _ | omega) (by first | exact hB _ _ | omega) (fun c_24 => ?_) (fun c_24 => ?_)) | ((with_reducible show eV _ _ _ (Value.int (-1) :: Value.int (oI _) :: _) _ _ _ _); refine ev_icmp_neO (tgt := 31) dX11_inState_24 (by decide) (by first | assumption | (intro k9 h9; exact absurd h9 (by simp)) | (intro k9 h9; have := (fst_lt h9).1; omega) | (intro k9 h9; cases h9; omega)) (fun c_24 => ?_) (fun c_24 => ?_)) | ((with_reducible show eV _ _ _ (Value.int (nI _) :: Value.int (oI _) :: _) _ _ _ _); refine ev_icmp_neON (tgt := 31) dX11_inState_24 (by decide) (by first | exact hB _ _ | omega) (by first | assumption | (intro k9 h9; exact absurd h9 (by simp)) | (intro k9 h9; have := (fst_lt h9).1; omega) | (intro k9 h9; cases h9; omega)) (fun c_24 => ?_) (fun c_24 => ?_)) | ((with_reducible show eV _ _ _ (Value.int (nI _) :: _) _ _ _ _); refine ev_icmp_neZN (tgt := 31) dX11_inState_24 (by decide) (by first | exact hB _ _ | omega) (fun c_24 => ?_) (fun c_24 => ?_)) | ((with_reducible show eV _ _ _ (_ :: Value.int (nI _) :: _) _ _ _ _); refine ev_icmp_neNZ (tgt := 31) dX11_inState_24 (by decide) (by first | exact hB _ _ | omega) (fun c_24 => ?_) (fun c_24 => ?_)) | (refine ev_icmp_neZZ (tgt := 31) dX11_inState_24 (by decide) (fun c_24 => ?_) (fun c_24 => ?_))
      · refine ev_iconst (v := nI 0) dX11_inState_31 rfl ?_
        first | refine ev_iaddN dX11_inState_32 ?_ | refine ev_iadd dX11_inState_32 ?_
        refine ev_istore_n dX11_inState_33 rfl (Nat.le_of_ble_eq_true rfl) ?_
        first | refine ev_iincN dX11_inState_34 rfl (Nat.le_of_ble_eq_true rfl) ?_ | refine ev_iinc dX11_inState_34 rfl rfl (Nat.le_of_ble_eq_true rfl) ?_
        refine ev_goto (tgt := 4) dX11_inState_37 (by decide) ?_
        exact (ih_4 _ (by omega) _ _  rfl (by first | omega | assumption | rfl) (by first | exact cnt_T (decide_eq_true c_24) hf | exact cnt_F (decide_eq_false c_24) hf)).sub1 ⟨rfl, rfl, rfl, rfl, trivial⟩ rfl
      · refine ev_iconst (v := nI 1) dX11_inState_27 rfl ?_
        refine ev_goto (tgt := 32) dX11_inState_28 (by decide) ?_
        first | refine ev_iaddN dX11_inState_32 ?_ | refine ev_iadd dX11_inState_32 ?_
        refine ev_istore_n dX11_inState_33 rfl (Nat.le_of_ble_eq_true rfl) ?_
        first | refine ev_iincN dX11_inState_34 rfl (Nat.le_of_ble_eq_true rfl) ?_ | refine ev_iinc dX11_inState_34 rfl rfl (Nat.le_of_ble_eq_true rfl) ?_
        refine ev_goto (tgt := 4) dX11_inState_37 (by decide) ?_
        exact (ih_4 _ (by omega) _ _  rfl (by first | omega | assumption | rfl) (by first | exact cnt_T (decide_eq_true c_24) hf | exact cnt_F (decide_eq_false c_24) hf)).sub1 ⟨rfl, rfl, rfl, rfl, trivial⟩ rfl
  exact (H_4 _ 0 0 rfl (by first | omega | assumption | rfl) (by first | omega | assumption | rfl)).sub1 ⟨rfl, rfl, rfl, rfl, trivial⟩ rfl
def sKF (σ : St) (p b k : Nat) : Bool := decide (σ 9 k = p) && (sAlive σ k && (sNameOn σ b (some p) (σ 6 k) (σ 7 k)).isSome)
theorem sKF_f {σ : St} {p b k : Nat} {cb : Bool} (hc : cb = !(fst (sKF σ p b) k).isSome) (h : cb = false) : false = !(fst (sKF σ p b) (k + 1)).isSome := by
  rw [h] at hc
  rw [fst]
  cases hq : fst (sKF σ p b) k with
  | none => rw [hq] at hc; cases hc
  | some e => rfl
theorem sKF_t {σ : St} {p b k : Nat} {cb : Bool} (hc : cb = !(fst (sKF σ p b) k).isSome) (h : cb = true) (h2 : sKF σ p b k = false) : true = !(fst (sKF σ p b) (k + 1)).isSome := by
  rw [h] at hc
  cases hq : fst (sKF σ p b) k with
  | none => rw [fst_s hq h2]; rfl
  | some e => rw [hq] at hc; cases hc
theorem sKF_y {σ : St} {p b k : Nat} {cb : Bool} (hc : cb = !(fst (sKF σ p b) k).isSome) (h : cb = true) (h2 : sKF σ p b k = true) : false = !(fst (sKF σ p b) (k + 1)).isSome := by
  rw [h] at hc
  cases hq : fst (sKF σ p b) k with
  | none => rw [fst_up hq h2 (Nat.lt_succ_self k)]; rfl
  | some e => rw [hq] at hc; cases hc
set_option maxHeartbeats 4000000 in
set_option maxRecDepth 20000 in
theorem c_X11_canSit {h : eH} {n a p b : Nat} {σ : St} (hA : eRow h a σ) (hK : eOK σ) (hp : p < 12) (hb : b < 4) : kX11_canSit [.ref a, .int (nI p), .int (nI b)] h n (.inl (some (.int (bI (!sKept σ p b)))), (· = h), some n) 0 0 := by
  refine eM.of RX11 "canSit" [(0, .ref a), (1, .int (nI p)), (2, .int (nI b))] pn_X11 rfl rfl (Nat.le_of_ble_eq_true rfl) rfl ?_
  have hB : eB σ := hK.1
  have h12 := hK.2.1
  have h40 := hK.2.2.1
  refine ev_iconst (v := nI 1) dX11_canSit_0 rfl ?_
  refine ev_istore_n dX11_canSit_1 rfl (Nat.le_of_ble_eq_true rfl) ?_
  refine ev_iconst (v := nI 0) dX11_canSit_2 rfl ?_
  refine ev_istore dX11_canSit_3 (Nat.le_of_ble_eq_true rfl) ?_
  have H_5 : ∀ (d_5 : Nat) (k : Nat) (cb : Bool), d_5 = σ 0 1 - k → (k ≤ σ 0 1) → (cb = !(fst (sKF σ p b) k).isSome) → eV mX11_canSit 5 [(0, .ref a), (1, .int (nI p)), (2, .int (nI b)), (3, .int (bI cb)), (4, .int (nI k))] [] (h, n, 0, 0) (.inl (some (.int (bI (!sKept σ p b)))), (· = h), some n) 0 0 := by
    intro d_5
    induction d_5 using Nat.strongRecOn with
    | _ d_5 ih_5 =>
    intro k cb hd_5 hk hcb
    refine ev_iload dX11_canSit_5 rfl ?_
    refine ev_aload_n dX11_canSit_7 rfl rfl ?_
    refine ev_sipush (v := nI 381) dX11_canSit_8 rfl ?_
    first | refine ev_rowG (f := 0) (j := 1) dX11_canSit_11 (by assumption) (Nat.le_of_ble_eq_true rfl) (fun _ => rfl) ?_ | refine ev_ialoadA dX11_canSit_11 (by first | assumption | omega | exact ePp.ob (by assumption) | exact eNm.ob (by assumption) | exact eRg.ob (by assumption) | exact eTx.ob (by assumption) | exact ePa.ob (by assumption)) (by first | assumption | omega | exact ePp.ob (by assumption) | exact eNm.ob (by assumption) | exact eRg.ob (by assumption) | exact eTx.ob (by assumption) | exact ePa.ob (by assumption)) ?_
    first | ((with_reducible show eV _ _ _ (Value.int (nI _) :: Value.int (nI _) :: _) _ _ _ _); refine ev_icmp_geN (tgt := 93) dX11_canSit_12 (by decide) (by first | exact hB _ _ | omega) (by first | exact hB _ _ | omega) (fun c_12 => ?_) (fun c_12 => ?_)) | ((with_reducible show eV _ _ _ (Value.int (nI _) :: _) _ _ _ _); refine ev_icmp_geZN (tgt := 93) dX11_canSit_12 (by decide) (by first | exact hB _ _ | omega) (fun c_12 => ?_) (fun c_12 => ?_)) | ((with_reducible show eV _ _ _ (_ :: Value.int (nI _) :: _) _ _ _ _); refine ev_icmp_geNZ (tgt := 93) dX11_canSit_12 (by decide) (by first | exact hB _ _ | omega) (fun c_12 => ?_) (fun c_12 => ?_)) | (refine ev_icmp_geZZ (tgt := 93) dX11_canSit_12 (by decide) (fun c_12 => ?_) (fun c_12 => ?_))
    · refine ev_iload_n dX11_canSit_93 rfl rfl ?_
      exact ev_iret dX11_canSit_94 rfl (by first | rfl | exact bI_n _) (by exact bRb (by have e : k = σ 0 1 := (by omega); rw [sKept, hcb, ← e]; rfl)) (by rfl) (fun _ e => by first | exact Option.some.inj e | (have e2 := Option.some.inj e; omega)) (by first | exact Nat.le_of_ble_eq_true rfl | omega) (by first | exact Nat.le_of_ble_eq_true rfl | omega)
    · refine ev_aload_n dX11_canSit_15 rfl rfl ?_
      refine ev_iload dX11_canSit_16 rfl ?_
      refine ev_callSi dX11_canSit_18 (c_X11_isAlive hA hB (by omega)) lk_X11_64 ⟨Nat.le_of_ble_eq_true rfl, Nat.le_of_ble_eq_true rfl⟩ rfl (Nat.le_of_ble_eq_true rfl) ⟨by first | exact Nat.le_of_ble_eq_true rfl | omega, by first | exact Nat.le_of_ble_eq_true rfl | omega⟩ (eRo ?_)
      first | ((with_reducible show eV _ _ _ (Value.int (bI _) :: _) _ _ _ _); refine ev_if_eqB (tgt := 41) dX11_canSit_21 (by decide) (fun c_21 => ?_) (fun c_21 => ?_)) | ((with_reducible show eV _ _ _ (Value.int (nI _) :: _) _ _ _ _); refine ev_if_eqN (tgt := 41) dX11_canSit_21 (by decide) (by first | exact hB _ _ | omega) (fun c_21 => ?_) (fun c_21 => ?_)) | (refine ev_if_eqZ (tgt := 41) dX11_canSit_21 (by decide) (fun c_21 => ?_) (fun c_21 => ?_))
      · refine ev_iconst (v := nI 0) dX11_canSit_41 rfl ?_
        refine ev_istore dX11_canSit_42 (Nat.le_of_ble_eq_true rfl) ?_
        refine ev_iload_n dX11_canSit_44 rfl rfl ?_
        first | ((with_reducible show eV _ _ _ (Value.int (bI _) :: _) _ _ _ _); refine ev_if_eqB (tgt := 85) dX11_canSit_45 (by decide) (fun c_45 => ?_) (fun c_45 => ?_)) | ((with_reducible show eV _ _ _ (Value.int (nI _) :: _) _ _ _ _); refine ev_if_eqN (tgt := 85) dX11_canSit_45 (by decide) (by first | exact hB _ _ | omega) (fun c_45 => ?_) (fun c_45 => ?_)) | (refine ev_if_eqZ (tgt := 85) dX11_canSit_45 (by decide) (fun c_45 => ?_) (fun c_45 => ?_))
        · refine ev_iconst (v := nI 0) dX11_canSit_85 rfl ?_
          refine ev_istore_n dX11_canSit_86 rfl (Nat.le_of_ble_eq_true rfl) ?_
          first | refine ev_iincN dX11_canSit_87 rfl (Nat.le_of_ble_eq_true rfl) ?_ | refine ev_iinc dX11_canSit_87 rfl rfl (Nat.le_of_ble_eq_true rfl) ?_
          refine ev_goto (tgt := 5) dX11_canSit_90 (by decide) ?_
          first | (exact (ih_5 _ (by omega) (k + 1) true rfl (by first | omega | assumption | rfl) (by first | exact sKF_f hcb c_45 | exact sKF_y hcb c_45 (by unfold sKF; rw [c_21, decide_eq_true c_34, Option.isSome_iff_ne_none.mpr c_78]; rfl) | exact sKF_t hcb c_45 (by unfold sKF; first | (rw [c_78]; simp) | (rw [decide_eq_false c_34]; rfl) | (rw [c_21]; simp)))).sub1 ⟨rfl, rfl, rfl, rfl, rfl, trivial⟩ rfl) | (exact (ih_5 _ (by omega) (k + 1) false rfl (by first | omega | assumption | rfl) (by first | exact sKF_f hcb c_45 | exact sKF_y hcb c_45 (by unfold sKF; rw [c_21, decide_eq_true c_34, Option.isSome_iff_ne_none.mpr c_78]; rfl) | exact sKF_t hcb c_45 (by unfold sKF; first | (rw [c_78]; simp) | (rw [decide_eq_false c_34]; rfl) | (rw [c_21]; simp)))).sub1 ⟨rfl, rfl, rfl, rfl, rfl, trivial⟩ rfl)
        · refine ev_iload dX11_canSit_48 rfl ?_
          refine ev_if_eqN (tgt := 81) dX11_canSit_50 (by decide) (by decide) (fun _ => ?_) (fun c => absurd rfl c)
          refine ev_iconst (v := nI 1) dX11_canSit_81 rfl ?_
          refine ev_goto (tgt := 86) dX11_canSit_82 (by decide) ?_
          refine ev_istore_n dX11_canSit_86 rfl (Nat.le_of_ble_eq_true rfl) ?_
          first | refine ev_iincN dX11_canSit_87 rfl (Nat.le_of_ble_eq_true rfl) ?_ | refine ev_iinc dX11_canSit_87 rfl rfl (Nat.le_of_ble_eq_true rfl) ?_
          refine ev_goto (tgt := 5) dX11_canSit_90 (by decide) ?_
          first | (exact (ih_5 _ (by omega) (k + 1) true rfl (by first | omega | assumption | rfl) (by first | exact sKF_f hcb c_45 | exact sKF_y hcb c_45 (by unfold sKF; rw [c_21, decide_eq_true c_34, Option.isSome_iff_ne_none.mpr c_78]; rfl) | exact sKF_t hcb c_45 (by unfold sKF; first | (rw [c_78]; simp) | (rw [decide_eq_false c_34]; rfl) | (rw [c_21]; simp)))).sub1 ⟨rfl, rfl, rfl, rfl, rfl, trivial⟩ rfl) | (exact (ih_5 _ (by omega) (k + 1) false rfl (by first | omega | assumption | rfl) (by first | exact sKF_f hcb c_45 | exact sKF_y hcb c_45 (by unfold sKF; rw [c_21, decide_eq_true c_34, Option.isSome_iff_ne_none.mpr c_78]; rfl) | exact sKF_t hcb c_45 (by unfold sKF; first | (rw [c_78]; simp) | (rw [decide_eq_false c_34]; rfl) | (rw [c_21]; simp)))).sub1 ⟨rfl, rfl, rfl, rfl, rfl, trivial⟩ rfl)
      · refine ev_aload_n dX11_canSit_24 rfl rfl ?_
        refine ev_iload dX11_canSit_25 rfl ?_
        refine ev_callSi dX11_canSit_27 c_X11_spot lk_X11_61 ⟨Nat.le_of_ble_eq_true rfl, Nat.le_of_ble_eq_true rfl⟩ rfl (Nat.le_of_ble_eq_true rfl) ⟨by first | exact Nat.le_of_ble_eq_true rfl | omega, by first | exact Nat.le_of_ble_eq_true rfl | omega⟩ (eRo ?_)
        refine ev_iconst (v := nI 3) dX11_canSit_30 rfl ?_
        first | refine ev_iaddN dX11_canSit_31 ?_ | refine ev_iadd dX11_canSit_31 ?_
        first | refine ev_rowN (f := 3) (F := 9) dX11_canSit_32 (by assumption) (by first | assumption | omega | exact ePp.ob (by assumption) | exact eNm.ob (by assumption) | exact eRg.ob (by assumption) | exact eTx.ob (by assumption) | exact ePa.ob (by assumption)) (by decide) rfl ?_ | refine ev_rowP (f := 3) (F := 4) dX11_canSit_32 (by assumption) (by first | assumption | omega | exact ePp.ob (by assumption) | exact eNm.ob (by assumption) | exact eRg.ob (by assumption) | exact eTx.ob (by assumption) | exact ePa.ob (by assumption)) (by decide) rfl ?_ | refine ev_ialoadA dX11_canSit_32 (by first | assumption | omega | exact ePp.ob (by assumption) | exact eNm.ob (by assumption) | exact eRg.ob (by assumption) | exact eTx.ob (by assumption) | exact ePa.ob (by assumption)) (by first | assumption | omega | exact ePp.ob (by assumption) | exact eNm.ob (by assumption) | exact eRg.ob (by assumption) | exact eTx.ob (by assumption) | exact ePa.ob (by assumption)) ?_
        refine ev_iload_n dX11_canSit_33 rfl rfl ?_
        first | ((with_reducible show eV _ _ _ (Value.int (nI _) :: Value.int (nI _) :: _) _ _ _ _); refine ev_icmp_neN (tgt := 41) dX11_canSit_34 (by decide) (by first | exact hB _ _ | omega) (by first | exact hB _ _ | omega) (fun c_34 => ?_) (fun c_34 => ?_)) | ((with_reducible show eV _ _ _ (Value.int (-1) :: Value.int (oI _) :: _) _ _ _ _); refine ev_icmp_neO (tgt := 41) dX11_canSit_34 (by decide) (by (intro k9 h9; have := (fst_lt h9).1; omega)) (fun c_34 => ?_) (fun c_34 => ?_)) | ((with_reducible show eV _ _ _ (Value.int (nI _) :: Value.int (oI _) :: _) _ _ _ _); refine ev_icmp_neON (tgt := 41) dX11_canSit_34 (by decide) (by first | exact hB _ _ | omega) (by (intro k9 h9; have := (fst_lt h9).1; omega)) (fun c_34 => ?_) (fun c_34 => ?_)) | ((with_reducible show eV _ _ _ (Value.int (nI _) :: _) _ _ _ _); refine ev_icmp_neZN (tgt := 41) dX11_canSit_34 (by decide) (by first | exact hB _ _ | omega) (fun c_34 => ?_) (fun c_34 => ?_)) | ((with_reducible show eV _ _ _ (_ :: Value.int (nI _) :: _) _ _ _ _); refine ev_icmp_neNZ (tgt := 41) dX11_canSit_34 (by decide) (by first | exact hB _ _ | omega) (fun c_34 => ?_) (fun c_34 => ?_)) | (refine ev_icmp_neZZ (tgt := 41) dX11_canSit_34 (by decide) (fun c_34 => ?_) (fun c_34 => ?_))
        · refine ev_iconst (v := nI 0) dX11_canSit_41 rfl ?_
          refine ev_istore dX11_canSit_42 (Nat.le_of_ble_eq_true rfl) ?_
          refine ev_iload_n dX11_canSit_44 rfl rfl ?_
          first | ((with_reducible show eV _ _ _ (Value.int (bI _) :: _) _ _ _ _); refine ev_if_eqB (tgt := 85) dX11_canSit_45 (by decide) (fun c_45 => ?_) (fun c_45 => ?_)) | ((with_reducible show eV _ _ _ (Value.int (nI _) :: _) _ _ _ _); refine ev_if_eqN (tgt := 85) dX11_canSit_45 (by decide) (by first | exact hB _ _ | omega) (fun c_45 => ?_) (fun c_45 => ?_)) | (refine ev_if_eqZ (tgt := 85) dX11_canSit_45 (by decide) (fun c_45 => ?_) (fun c_45 => ?_))
          · refine ev_iconst (v := nI 0) dX11_canSit_85 rfl ?_
            refine ev_istore_n dX11_canSit_86 rfl (Nat.le_of_ble_eq_true rfl) ?_
            first | refine ev_iincN dX11_canSit_87 rfl (Nat.le_of_ble_eq_true rfl) ?_ | refine ev_iinc dX11_canSit_87 rfl rfl (Nat.le_of_ble_eq_true rfl) ?_
            refine ev_goto (tgt := 5) dX11_canSit_90 (by decide) ?_
            first | (exact (ih_5 _ (by omega) (k + 1) true rfl (by first | omega | assumption | rfl) (by first | exact sKF_f hcb c_45 | exact sKF_y hcb c_45 (by unfold sKF; rw [c_21, decide_eq_true c_34, Option.isSome_iff_ne_none.mpr c_78]; rfl) | exact sKF_t hcb c_45 (by unfold sKF; first | (rw [c_78]; simp) | (rw [decide_eq_false c_34]; rfl) | (rw [c_21]; simp)))).sub1 ⟨rfl, rfl, rfl, rfl, rfl, trivial⟩ rfl) | (exact (ih_5 _ (by omega) (k + 1) false rfl (by first | omega | assumption | rfl) (by first | exact sKF_f hcb c_45 | exact sKF_y hcb c_45 (by unfold sKF; rw [c_21, decide_eq_true c_34, Option.isSome_iff_ne_none.mpr c_78]; rfl) | exact sKF_t hcb c_45 (by unfold sKF; first | (rw [c_78]; simp) | (rw [decide_eq_false c_34]; rfl) | (rw [c_21]; simp)))).sub1 ⟨rfl, rfl, rfl, rfl, rfl, trivial⟩ rfl)
          · refine ev_iload dX11_canSit_48 rfl ?_
            refine ev_if_eqN (tgt := 81) dX11_canSit_50 (by decide) (by decide) (fun _ => ?_) (fun c => absurd rfl c)
            refine ev_iconst (v := nI 1) dX11_canSit_81 rfl ?_
            refine ev_goto (tgt := 86) dX11_canSit_82 (by decide) ?_
            refine ev_istore_n dX11_canSit_86 rfl (Nat.le_of_ble_eq_true rfl) ?_
            first | refine ev_iincN dX11_canSit_87 rfl (Nat.le_of_ble_eq_true rfl) ?_ | refine ev_iinc dX11_canSit_87 rfl rfl (Nat.le_of_ble_eq_true rfl) ?_
            refine ev_goto (tgt := 5) dX11_canSit_90 (by decide) ?_
            first | (exact (ih_5 _ (by omega) (k + 1) true rfl (by first | omega | assumption | rfl) (by first | exact sKF_f hcb c_45 | exact sKF_y hcb c_45 (by unfold sKF; rw [c_21, decide_eq_true c_34, Option.isSome_iff_ne_none.mpr c_78]; rfl) | exact sKF_t hcb c_45 (by unfold sKF; first | (rw [c_78]; simp) | (rw [decide_eq_false c_34]; rfl) | (rw [c_21]; simp)))).sub1 ⟨rfl, rfl, rfl, rfl, rfl, trivial⟩ rfl) | (exact (ih_5 _ (by omega) (k + 1) false rfl (by first | omega | assumption | rfl) (by first | exact sKF_f hcb c_45 | exact sKF_y hcb c_45 (by unfold sKF; rw [c_21, decide_eq_true c_34, Option.isSome_iff_ne_none.mpr c_78]; rfl) | exact sKF_t hcb c_45 (by unfold sKF; first | (rw [c_78]; simp) | (rw [decide_eq_false c_34]; rfl) | (rw [c_21]; simp)))).sub1 ⟨rfl, rfl, rfl, rfl, rfl, trivial⟩ rfl)
        · refine ev_iconst (v := nI 1) dX11_canSit_37 rfl ?_
          refine ev_goto (tgt := 42) dX11_canSit_38 (by decide) ?_
          refine ev_istore dX11_canSit_42 (Nat.le_of_ble_eq_true rfl) ?_
          refine ev_iload_n dX11_canSit_44 rfl rfl ?_
          first | ((with_reducible show eV _ _ _ (Value.int (bI _) :: _) _ _ _ _); refine ev_if_eqB (tgt := 85) dX11_canSit_45 (by decide) (fun c_45 => ?_) (fun c_45 => ?_)) | ((with_reducible show eV _ _ _ (Value.int (nI _) :: _) _ _ _ _); refine ev_if_eqN (tgt := 85) dX11_canSit_45 (by decide) (by first | exact hB _ _ | omega) (fun c_45 => ?_) (fun c_45 => ?_)) | (refine ev_if_eqZ (tgt := 85) dX11_canSit_45 (by decide) (fun c_45 => ?_) (fun c_45 => ?_))
          · refine ev_iconst (v := nI 0) dX11_canSit_85 rfl ?_
            refine ev_istore_n dX11_canSit_86 rfl (Nat.le_of_ble_eq_true rfl) ?_
            first | refine ev_iincN dX11_canSit_87 rfl (Nat.le_of_ble_eq_true rfl) ?_ | refine ev_iinc dX11_canSit_87 rfl rfl (Nat.le_of_ble_eq_true rfl) ?_
            refine ev_goto (tgt := 5) dX11_canSit_90 (by decide) ?_
            first | (exact (ih_5 _ (by omega) (k + 1) true rfl (by first | omega | assumption | rfl) (by first | exact sKF_f hcb c_45 | exact sKF_y hcb c_45 (by unfold sKF; rw [c_21, decide_eq_true c_34, Option.isSome_iff_ne_none.mpr c_78]; rfl) | exact sKF_t hcb c_45 (by unfold sKF; first | (rw [c_78]; simp) | (rw [decide_eq_false c_34]; rfl) | (rw [c_21]; simp)))).sub1 ⟨rfl, rfl, rfl, rfl, rfl, trivial⟩ rfl) | (exact (ih_5 _ (by omega) (k + 1) false rfl (by first | omega | assumption | rfl) (by first | exact sKF_f hcb c_45 | exact sKF_y hcb c_45 (by unfold sKF; rw [c_21, decide_eq_true c_34, Option.isSome_iff_ne_none.mpr c_78]; rfl) | exact sKF_t hcb c_45 (by unfold sKF; first | (rw [c_78]; simp) | (rw [decide_eq_false c_34]; rfl) | (rw [c_21]; simp)))).sub1 ⟨rfl, rfl, rfl, rfl, rfl, trivial⟩ rfl)
          · refine ev_iload dX11_canSit_48 rfl ?_
            refine ev_if_eqN (tgt := 81) dX11_canSit_50 (by decide) (by decide) (fun c => absurd c (by decide)) (fun _ => ?_)
            refine ev_aload_n dX11_canSit_53 rfl rfl ?_
            refine ev_iload_n dX11_canSit_54 rfl rfl ?_
            refine ev_iload_n dX11_canSit_55 rfl rfl ?_
            refine ev_aload_n dX11_canSit_56 rfl rfl ?_
            refine ev_iload dX11_canSit_57 rfl ?_
            refine ev_callSi dX11_canSit_59 c_X11_spot lk_X11_61 ⟨Nat.le_of_ble_eq_true rfl, Nat.le_of_ble_eq_true rfl⟩ rfl (Nat.le_of_ble_eq_true rfl) ⟨by first | exact Nat.le_of_ble_eq_true rfl | omega, by first | exact Nat.le_of_ble_eq_true rfl | omega⟩ (eRo ?_)
            refine ev_iconst (v := nI 0) dX11_canSit_62 rfl ?_
            first | refine ev_iaddN dX11_canSit_63 ?_ | refine ev_iadd dX11_canSit_63 ?_
            first | refine ev_rowN (f := 0) (F := 6) dX11_canSit_64 (by assumption) (by first | assumption | omega | exact ePp.ob (by assumption) | exact eNm.ob (by assumption) | exact eRg.ob (by assumption) | exact eTx.ob (by assumption) | exact ePa.ob (by assumption)) (by decide) rfl ?_ | refine ev_rowP (f := 0) (F := 1) dX11_canSit_64 (by assumption) (by first | assumption | omega | exact ePp.ob (by assumption) | exact eNm.ob (by assumption) | exact eRg.ob (by assumption) | exact eTx.ob (by assumption) | exact ePa.ob (by assumption)) (by decide) rfl ?_ | refine ev_ialoadA dX11_canSit_64 (by first | assumption | omega | exact ePp.ob (by assumption) | exact eNm.ob (by assumption) | exact eRg.ob (by assumption) | exact eTx.ob (by assumption) | exact ePa.ob (by assumption)) (by first | assumption | omega | exact ePp.ob (by assumption) | exact eNm.ob (by assumption) | exact eRg.ob (by assumption) | exact eTx.ob (by assumption) | exact ePa.ob (by assumption)) ?_
            refine ev_aload_n dX11_canSit_65 rfl rfl ?_
            refine ev_iload dX11_canSit_66 rfl ?_
            refine ev_callSi dX11_canSit_68 c_X11_spot lk_X11_61 ⟨Nat.le_of_ble_eq_true rfl, Nat.le_of_ble_eq_true rfl⟩ rfl (Nat.le_of_ble_eq_true rfl) ⟨by first | exact Nat.le_of_ble_eq_true rfl | omega, by first | exact Nat.le_of_ble_eq_true rfl | omega⟩ (eRo ?_)
            refine ev_iconst (v := nI 1) dX11_canSit_71 rfl ?_
            first | refine ev_iaddN dX11_canSit_72 ?_ | refine ev_iadd dX11_canSit_72 ?_
            first | refine ev_rowN (f := 1) (F := 7) dX11_canSit_73 (by assumption) (by first | assumption | omega | exact ePp.ob (by assumption) | exact eNm.ob (by assumption) | exact eRg.ob (by assumption) | exact eTx.ob (by assumption) | exact ePa.ob (by assumption)) (by decide) rfl ?_ | refine ev_rowP (f := 1) (F := 2) dX11_canSit_73 (by assumption) (by first | assumption | omega | exact ePp.ob (by assumption) | exact eNm.ob (by assumption) | exact eRg.ob (by assumption) | exact eTx.ob (by assumption) | exact ePa.ob (by assumption)) (by decide) rfl ?_ | refine ev_ialoadA dX11_canSit_73 (by first | assumption | omega | exact ePp.ob (by assumption) | exact eNm.ob (by assumption) | exact eRg.ob (by assumption) | exact eTx.ob (by assumption) | exact ePa.ob (by assumption)) (by first | assumption | omega | exact ePp.ob (by assumption) | exact eNm.ob (by assumption) | exact eRg.ob (by assumption) | exact eTx.ob (by assumption) | exact ePa.ob (by assumption)) ?_
            refine ev_callSi dX11_canSit_74 (c_X11_nameOn (ex := some p) hA hK (by omega) (fun _ h9 => by cases h9; omega) (hB _ _) (hB _ _)) lk_X11_83 ⟨Nat.le_of_ble_eq_true rfl, Nat.le_of_ble_eq_true rfl⟩ rfl (Nat.le_of_ble_eq_true rfl) ⟨by first | exact Nat.le_of_ble_eq_true rfl | omega, by first | exact Nat.le_of_ble_eq_true rfl | omega⟩ (eRo ?_)
            refine ev_iconst (v := -1) dX11_canSit_77 (by decide) ?_
            first | ((with_reducible show eV _ _ _ (Value.int (nI _) :: Value.int (nI _) :: _) _ _ _ _); refine ev_icmp_neN (tgt := 85) dX11_canSit_78 (by decide) (by first | exact hB _ _ | omega) (by first | exact hB _ _ | omega) (fun c_78 => ?_) (fun c_78 => ?_)) | ((with_reducible show eV _ _ _ (Value.int (-1) :: Value.int (oI _) :: _) _ _ _ _); refine ev_icmp_neO (tgt := 85) dX11_canSit_78 (by decide) (by (intro k9 h9; have := (fst_lt h9).1; omega)) (fun c_78 => ?_) (fun c_78 => ?_)) | ((with_reducible show eV _ _ _ (Value.int (nI _) :: Value.int (oI _) :: _) _ _ _ _); refine ev_icmp_neON (tgt := 85) dX11_canSit_78 (by decide) (by first | exact hB _ _ | omega) (by (intro k9 h9; have := (fst_lt h9).1; omega)) (fun c_78 => ?_) (fun c_78 => ?_)) | ((with_reducible show eV _ _ _ (Value.int (nI _) :: _) _ _ _ _); refine ev_icmp_neZN (tgt := 85) dX11_canSit_78 (by decide) (by first | exact hB _ _ | omega) (fun c_78 => ?_) (fun c_78 => ?_)) | ((with_reducible show eV _ _ _ (_ :: Value.int (nI _) :: _) _ _ _ _); refine ev_icmp_neNZ (tgt := 85) dX11_canSit_78 (by decide) (by first | exact hB _ _ | omega) (fun c_78 => ?_) (fun c_78 => ?_)) | (refine ev_icmp_neZZ (tgt := 85) dX11_canSit_78 (by decide) (fun c_78 => ?_) (fun c_78 => ?_))
            · refine ev_iconst (v := nI 0) dX11_canSit_85 rfl ?_
              refine ev_istore_n dX11_canSit_86 rfl (Nat.le_of_ble_eq_true rfl) ?_
              first | refine ev_iincN dX11_canSit_87 rfl (Nat.le_of_ble_eq_true rfl) ?_ | refine ev_iinc dX11_canSit_87 rfl rfl (Nat.le_of_ble_eq_true rfl) ?_
              refine ev_goto (tgt := 5) dX11_canSit_90 (by decide) ?_
              first | (exact (ih_5 _ (by omega) (k + 1) true rfl (by first | omega | assumption | rfl) (by first | exact sKF_f hcb c_45 | exact sKF_y hcb c_45 (by unfold sKF; rw [c_21, decide_eq_true c_34, Option.isSome_iff_ne_none.mpr c_78]; rfl) | exact sKF_t hcb c_45 (by unfold sKF; first | (rw [c_78]; simp) | (rw [decide_eq_false c_34]; rfl) | (rw [c_21]; simp)))).sub1 ⟨rfl, rfl, rfl, rfl, rfl, trivial⟩ rfl) | (exact (ih_5 _ (by omega) (k + 1) false rfl (by first | omega | assumption | rfl) (by first | exact sKF_f hcb c_45 | exact sKF_y hcb c_45 (by unfold sKF; rw [c_21, decide_eq_true c_34, Option.isSome_iff_ne_none.mpr c_78]; rfl) | exact sKF_t hcb c_45 (by unfold sKF; first | (rw [c_78]; simp) | (rw [decide_eq_false c_34]; rfl) | (rw [c_21]; simp)))).sub1 ⟨rfl, rfl, rfl, rfl, rfl, trivial⟩ rfl)
            · refine ev_iconst (v := nI 1) dX11_canSit_81 rfl ?_
              refine ev_goto (tgt := 86) dX11_canSit_82 (by decide) ?_
              refine ev_istore_n dX11_canSit_86 rfl (Nat.le_of_ble_eq_true rfl) ?_
              first | refine ev_iincN dX11_canSit_87 rfl (Nat.le_of_ble_eq_true rfl) ?_ | refine ev_iinc dX11_canSit_87 rfl rfl (Nat.le_of_ble_eq_true rfl) ?_
              refine ev_goto (tgt := 5) dX11_canSit_90 (by decide) ?_
              first | (exact (ih_5 _ (by omega) (k + 1) true rfl (by first | omega | assumption | rfl) (by first | exact sKF_f hcb c_45 | exact sKF_y hcb c_45 (by unfold sKF; rw [c_21, decide_eq_true c_34, Option.isSome_iff_ne_none.mpr c_78]; rfl) | exact sKF_t hcb c_45 (by unfold sKF; first | (rw [c_78]; simp) | (rw [decide_eq_false c_34]; rfl) | (rw [c_21]; simp)))).sub1 ⟨rfl, rfl, rfl, rfl, rfl, trivial⟩ rfl) | (exact (ih_5 _ (by omega) (k + 1) false rfl (by first | omega | assumption | rfl) (by first | exact sKF_f hcb c_45 | exact sKF_y hcb c_45 (by unfold sKF; rw [c_21, decide_eq_true c_34, Option.isSome_iff_ne_none.mpr c_78]; rfl) | exact sKF_t hcb c_45 (by unfold sKF; first | (rw [c_78]; simp) | (rw [decide_eq_false c_34]; rfl) | (rw [c_21]; simp)))).sub1 ⟨rfl, rfl, rfl, rfl, rfl, trivial⟩ rfl)
  exact (H_5 _ 0 true rfl (by first | omega | assumption | rfl) (by first | omega | assumption | rfl)).sub1 ⟨rfl, rfl, rfl, rfl, rfl, trivial⟩ rfl

