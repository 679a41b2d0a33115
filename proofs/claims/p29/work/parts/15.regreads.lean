def sKept (σ : St) (p b : Nat) : Bool := (fst (fun k => decide (σ 9 k = p) && (sAlive σ k && (sNameOn σ b (some p) (σ 6 k) (σ 7 k)).isSome)) (σ 0 1)).isSome
def sMNlo (σ : St) (b m c : Nat) : Nat → Option Nat
  | 0 => none
  | k + 1 => if sIs σ k m c = true then (match sFBO σ b (σ 9 k), sMNlo σ b m c k with
    | none, lo => lo
    | some q, none => some q
    | some q, some l => if q < l then some q else some l) else sMNlo σ b m c k
def sMeantN (σ : St) (b m c : Nat) : Option Nat := match fst (fun k => sIs σ k m c && decide (σ 3 (σ 9 k) = b)) (σ 0 1) with
  | some k => some (σ 9 k)
  | none => sMNlo σ b m c (σ 0 1)
def sYounger (σ : St) (a b : Nat) : Bool := decide (σ 2 a = σ 2 b) && (decide (σ 1 a < σ 1 b) && decide (σ 3 a = σ 3 b))
def sHeirC (σ : St) (p k : Nat) (o : Option Nat) : Bool := (match o with | none => true | some e => decide (σ 1 e < σ 1 k)) && (sYounger σ k p && decide (sLives σ k < 3))
def sHeirTo (σ : St) (p : Nat) : Nat → Option Nat
  | 0 => none
  | k + 1 => if sHeirC σ p k (sHeirTo σ p k) = true then some k else sHeirTo σ p k
def sHeir (σ : St) (p : Nat) : Option Nat := sHeirTo σ p (σ 0 0)
theorem sHeirTo_lt {σ : St} {p : Nat} : ∀ {k e : Nat}, sHeirTo σ p k = some e → e < k
  | 0, e, h => by cases h
  | k + 1, e, h => by
    rw [sHeirTo] at h
    by_cases hc : sHeirC σ p k (sHeirTo σ p k) = true
    · rw [if_pos hc] at h
      cases h; exact Nat.lt_succ_self k
    · rw [if_neg hc] at h
      exact Nat.lt_succ_of_lt (sHeirTo_lt h)
theorem sMNlo_lt {σ : St} {b m c : Nat} : ∀ {k e : Nat}, sMNlo σ b m c k = some e → e < σ 0 0
  | 0, e, h => by cases h
  | k + 1, e, h => by
    rw [sMNlo] at h
    by_cases h1 : sIs σ k m c = true
    · rw [if_pos h1] at h
      cases hf : sFBO σ b (σ 9 k) with
      | none => rw [hf] at h; exact sMNlo_lt h
      | some q =>
        have hq : q < σ 0 0 := (fst_lt hf).1
        cases hl : sMNlo σ b m c k with
        | none => rw [hf, hl] at h; cases h; exact hq
        | some l =>
          have := sMNlo_lt hl
          rw [hf, hl] at h
          by_cases h2 : q < l
          · simp only [if_pos h2] at h; cases h; exact hq
          · simp only [if_neg h2] at h; cases h; exact this
    · rw [if_neg h1] at h
      exact sMNlo_lt h
theorem eOK.lives {σ : St} (hO : eOK σ) (p : Nat) : sLives σ p ≤ 40 := Nat.le_trans (cnt_le _ _) hO.2.2.1
set_option maxHeartbeats 4000000 in
set_option maxRecDepth 20000 in
theorem c_X5_reasonAgainstAnyName {h : eH} {n r : Nat} {σ : St} (hR : eRg h r σ) (hO : eOK σ) {g p : Nat} (hg : g < σ 0 0) (hp : p < σ 0 0) : kX5_reasonAgainstAnyName [.ref r, .int (nI g), .int (nI p)] h n (.inl (some (.int (nI (sWhyAny σ g p)))), (· = h), some n) 0 0 := by
  refine eM.of RX5 "reasonAgainstAnyName" [(0, .ref r), (1, .int (nI g)), (2, .int (nI p))] pn_X5 rfl rfl (Nat.le_of_ble_eq_true rfl) rfl ?_
  have hB : eB σ := hO.1
  have hm := hO.2.1
  have hl := hO.lives p
  obtain ⟨r0, hP, hN, hS⟩ := hR
  obtain ⟨p0, p1, p2, p3, p4, p5⟩ := id hP
  obtain ⟨n0, n1, n2, n3, n4, n5, n6, n7, n8, n9⟩ := id hN
  refine ev_iload_n dX5_reasonAgainstAnyName_0 rfl rfl ?_
  refine ev_iload_n dX5_reasonAgainstAnyName_1 rfl rfl ?_
  first | ((with_reducible show eV _ _ _ (Value.int (nI _) :: Value.int (nI _) :: _) _ _ _ _); refine ev_icmp_neN (tgt := 7) dX5_reasonAgainstAnyName_2 (by decide) (by first | exact hB _ _ | omega) (by first | exact hB _ _ | omega) (fun c_2 => ?_) (fun c_2 => ?_)) | ((with_reducible show eV _ _ _ (Value.int (-1) :: Value.int (oI _) :: _) _ _ _ _); refine ev_icmp_neO (tgt := 7) dX5_reasonAgainstAnyName_2 (by decide) (by first | assumption | (intro k9 h9; exact absurd h9 (by simp)) | (intro k9 h9; have := (fst_lt h9).1; omega) | (intro k9 h9; cases h9; omega)) (fun c_2 => ?_) (fun c_2 => ?_)) | ((with_reducible show eV _ _ _ (Value.int (nI _) :: _) _ _ _ _); refine ev_icmp_neZN (tgt := 7) dX5_reasonAgainstAnyName_2 (by decide) (by first | exact hB _ _ | omega) (fun c_2 => ?_) (fun c_2 => ?_)) | ((with_reducible show eV _ _ _ (_ :: Value.int (nI _) :: _) _ _ _ _); refine ev_icmp_neNZ (tgt := 7) dX5_reasonAgainstAnyName_2 (by decide) (by first | exact hB _ _ | omega) (fun c_2 => ?_) (fun c_2 => ?_)) | (refine ev_icmp_neZZ (tgt := 7) dX5_reasonAgainstAnyName_2 (by decide) (fun c_2 => ?_) (fun c_2 => ?_))
  · refine ev_aload_n dX5_reasonAgainstAnyName_7 rfl rfl ?_
    refine ev_getfield dX5_reasonAgainstAnyName_8 fl_X5_12 (by first | assumption | omega) rfl ?_
    refine ev_iload_n dX5_reasonAgainstAnyName_11 rfl rfl ?_
    refine ev_iload_n dX5_reasonAgainstAnyName_12 rfl rfl ?_
    refine ev_callVi dX5_reasonAgainstAnyName_13 (c_X4_areBrothers (by first | assumption | omega) (by first | assumption | omega) (by first | assumption | omega) (by first | assumption | omega)) rfl lk_X5_74 (by first | assumption | omega) ⟨Nat.le_of_ble_eq_true rfl, Nat.le_of_ble_eq_true rfl⟩ rfl (Nat.le_of_ble_eq_true rfl) ⟨Nat.le_of_ble_eq_true rfl, Nat.le_of_ble_eq_true rfl⟩ (eRo ?_)
    first | ((with_reducible show eV _ _ _ (Value.int (bI _) :: _) _ _ _ _); refine ev_if_neB (tgt := 42) dX5_reasonAgainstAnyName_16 (by decide) (fun c_16 => ?_) (fun c_16 => ?_)) | ((with_reducible show eV _ _ _ (Value.int (nI _) :: _) _ _ _ _); refine ev_if_neN (tgt := 42) dX5_reasonAgainstAnyName_16 (by decide) (by first | exact hB _ _ | omega) (fun c_16 => ?_) (fun c_16 => ?_)) | (refine ev_if_neZ (tgt := 42) dX5_reasonAgainstAnyName_16 (by decide) (fun c_16 => ?_) (fun c_16 => ?_))
    · refine ev_aload_n dX5_reasonAgainstAnyName_42 rfl rfl ?_
      refine ev_getfield dX5_reasonAgainstAnyName_43 fl_X5_21 (by first | assumption | omega) rfl ?_
      refine ev_iload_n dX5_reasonAgainstAnyName_46 rfl rfl ?_
      refine ev_callVi dX5_reasonAgainstAnyName_47 (c_X2_aliveOf hN hB (by omega)) rfl lk_X5_78 (by first | assumption | omega) ⟨Nat.le_of_ble_eq_true rfl, Nat.le_of_ble_eq_true rfl⟩ rfl (Nat.le_of_ble_eq_true rfl) ⟨Nat.le_of_ble_eq_true rfl, Nat.le_of_ble_eq_true rfl⟩ (eRo ?_)
      refine ev_iconst (v := nI 3) dX5_reasonAgainstAnyName_50 rfl ?_
      first | ((with_reducible show eV _ _ _ (Value.int (nI _) :: Value.int (nI _) :: _) _ _ _ _); refine ev_icmp_ltN (tgt := 58) dX5_reasonAgainstAnyName_51 (by decide) (by first | exact hB _ _ | omega) (by first | exact hB _ _ | omega) (fun c_51 => ?_) (fun c_51 => ?_)) | ((with_reducible show eV _ _ _ (Value.int (nI _) :: _) _ _ _ _); refine ev_icmp_ltZN (tgt := 58) dX5_reasonAgainstAnyName_51 (by decide) (by first | exact hB _ _ | omega) (fun c_51 => ?_) (fun c_51 => ?_)) | ((with_reducible show eV _ _ _ (_ :: Value.int (nI _) :: _) _ _ _ _); refine ev_icmp_ltNZ (tgt := 58) dX5_reasonAgainstAnyName_51 (by decide) (by first | exact hB _ _ | omega) (fun c_51 => ?_) (fun c_51 => ?_)) | (refine ev_icmp_ltZZ (tgt := 58) dX5_reasonAgainstAnyName_51 (by decide) (fun c_51 => ?_) (fun c_51 => ?_))
      · refine ev_iconst (v := nI 0) dX5_reasonAgainstAnyName_58 rfl ?_
        exact ev_iret dX5_reasonAgainstAnyName_59 rfl rfl (by exact nR (by rw [sWhyAny]; first | (rw [if_pos (by assumption)]; done) | (rw [if_neg (by assumption), if_pos ⟨by assumption, by assumption⟩]; done) | (rw [if_neg (by assumption), if_neg (by intro q; first | exact q.2 c_37 | (rw [q.1] at c_16; cases c_16))]; first | (rw [if_pos (by assumption)]; done) | (rw [if_neg (by omega)]; done)))) (by rfl) (fun _ e => Option.some.inj e) (Nat.le_of_ble_eq_true rfl) (Nat.le_of_ble_eq_true rfl)
      · refine ev_iconst (v := nI 3) dX5_reasonAgainstAnyName_54 rfl ?_
        refine ev_goto (tgt := 59) dX5_reasonAgainstAnyName_55 (by decide) ?_
        exact ev_iret dX5_reasonAgainstAnyName_59 rfl rfl (by exact nR (by rw [sWhyAny]; first | (rw [if_pos (by assumption)]; done) | (rw [if_neg (by assumption), if_pos ⟨by assumption, by assumption⟩]; done) | (rw [if_neg (by assumption), if_neg (by intro q; first | exact q.2 c_37 | (rw [q.1] at c_16; cases c_16))]; first | (rw [if_pos (by assumption)]; done) | (rw [if_neg (by omega)]; done)))) (by rfl) (fun _ e => Option.some.inj e) (Nat.le_of_ble_eq_true rfl) (Nat.le_of_ble_eq_true rfl)
    · refine ev_aload_n dX5_reasonAgainstAnyName_19 rfl rfl ?_
      refine ev_getfield dX5_reasonAgainstAnyName_20 fl_X5_12 (by first | assumption | omega) rfl ?_
      refine ev_getfield dX5_reasonAgainstAnyName_23 fl_X5_63 (by first | assumption | omega) rfl ?_
      refine ev_iload_n dX5_reasonAgainstAnyName_26 rfl rfl ?_
      refine ev_ialoadA dX5_reasonAgainstAnyName_27 (by first | assumption | omega) (by first | assumption | omega) ?_
      refine ev_aload_n dX5_reasonAgainstAnyName_28 rfl rfl ?_
      refine ev_getfield dX5_reasonAgainstAnyName_29 fl_X5_12 (by first | assumption | omega) rfl ?_
      refine ev_getfield dX5_reasonAgainstAnyName_32 fl_X5_63 (by first | assumption | omega) rfl ?_
      refine ev_iload_n dX5_reasonAgainstAnyName_35 rfl rfl ?_
      refine ev_ialoadA dX5_reasonAgainstAnyName_36 (by first | assumption | omega) (by first | assumption | omega) ?_
      first | ((with_reducible show eV _ _ _ (Value.int (nI _) :: Value.int (nI _) :: _) _ _ _ _); refine ev_icmp_eqN (tgt := 42) dX5_reasonAgainstAnyName_37 (by decide) (by first | exact hB _ _ | omega) (by first | exact hB _ _ | omega) (fun c_37 => ?_) (fun c_37 => ?_)) | ((with_reducible show eV _ _ _ (Value.int (-1) :: Value.int (oI _) :: _) _ _ _ _); refine ev_icmp_eqO (tgt := 42) dX5_reasonAgainstAnyName_37 (by decide) (by first | assumption | (intro k9 h9; exact absurd h9 (by simp)) | (intro k9 h9; have := (fst_lt h9).1; omega) | (intro k9 h9; cases h9; omega)) (fun c_37 => ?_) (fun c_37 => ?_)) | ((with_reducible show eV _ _ _ (Value.int (oI _) :: Value.int (nI _) :: _) _ _ _ _); refine ev_icmp_eqNO (tgt := 42) dX5_reasonAgainstAnyName_37 (by decide) (by first | exact hB _ _ | omega) (by first | assumption | (intro k9 h9; exact absurd h9 (by simp)) | (intro k9 h9; have := (fst_lt h9).1; omega) | (intro k9 h9; cases h9; omega)) (fun c_37 => ?_) (fun c_37 => ?_)) | ((with_reducible show eV _ _ _ (Value.int (nI _) :: _) _ _ _ _); refine ev_icmp_eqZN (tgt := 42) dX5_reasonAgainstAnyName_37 (by decide) (by first | exact hB _ _ | omega) (fun c_37 => ?_) (fun c_37 => ?_)) | ((with_reducible show eV _ _ _ (_ :: Value.int (nI _) :: _) _ _ _ _); refine ev_icmp_eqNZ (tgt := 42) dX5_reasonAgainstAnyName_37 (by decide) (by first | exact hB _ _ | omega) (fun c_37 => ?_) (fun c_37 => ?_)) | (refine ev_icmp_eqZZ (tgt := 42) dX5_reasonAgainstAnyName_37 (by decide) (fun c_37 => ?_) (fun c_37 => ?_))
      · refine ev_aload_n dX5_reasonAgainstAnyName_42 rfl rfl ?_
        refine ev_getfield dX5_reasonAgainstAnyName_43 fl_X5_21 (by first | assumption | omega) rfl ?_
        refine ev_iload_n dX5_reasonAgainstAnyName_46 rfl rfl ?_
        refine ev_callVi dX5_reasonAgainstAnyName_47 (c_X2_aliveOf hN hB (by omega)) rfl lk_X5_78 (by first | assumption | omega) ⟨Nat.le_of_ble_eq_true rfl, Nat.le_of_ble_eq_true rfl⟩ rfl (Nat.le_of_ble_eq_true rfl) ⟨Nat.le_of_ble_eq_true rfl, Nat.le_of_ble_eq_true rfl⟩ (eRo ?_)
        refine ev_iconst (v := nI 3) dX5_reasonAgainstAnyName_50 rfl ?_
        first | ((with_reducible show eV _ _ _ (Value.int (nI _) :: Value.int (nI _) :: _) _ _ _ _); refine ev_icmp_ltN (tgt := 58) dX5_reasonAgainstAnyName_51 (by decide) (by first | exact hB _ _ | omega) (by first | exact hB _ _ | omega) (fun c_51 => ?_) (fun c_51 => ?_)) | ((with_reducible show eV _ _ _ (Value.int (nI _) :: _) _ _ _ _); refine ev_icmp_ltZN (tgt := 58) dX5_reasonAgainstAnyName_51 (by decide) (by first | exact hB _ _ | omega) (fun c_51 => ?_) (fun c_51 => ?_)) | ((with_reducible show eV _ _ _ (_ :: Value.int (nI _) :: _) _ _ _ _); refine ev_icmp_ltNZ (tgt := 58) dX5_reasonAgainstAnyName_51 (by decide) (by first | exact hB _ _ | omega) (fun c_51 => ?_) (fun c_51 => ?_)) | (refine ev_icmp_ltZZ (tgt := 58) dX5_reasonAgainstAnyName_51 (by decide) (fun c_51 => ?_) (fun c_51 => ?_))
        · refine ev_iconst (v := nI 0) dX5_reasonAgainstAnyName_58 rfl ?_
          exact ev_iret dX5_reasonAgainstAnyName_59 rfl rfl (by exact nR (by rw [sWhyAny]; first | (rw [if_pos (by assumption)]; done) | (rw [if_neg (by assumption), if_pos ⟨by assumption, by assumption⟩]; done) | (rw [if_neg (by assumption), if_neg (by intro q; first | exact q.2 c_37 | (rw [q.1] at c_16; cases c_16))]; first | (rw [if_pos (by assumption)]; done) | (rw [if_neg (by omega)]; done)))) (by rfl) (fun _ e => Option.some.inj e) (Nat.le_of_ble_eq_true rfl) (Nat.le_of_ble_eq_true rfl)
        · refine ev_iconst (v := nI 3) dX5_reasonAgainstAnyName_54 rfl ?_
          refine ev_goto (tgt := 59) dX5_reasonAgainstAnyName_55 (by decide) ?_
          exact ev_iret dX5_reasonAgainstAnyName_59 rfl rfl (by exact nR (by rw [sWhyAny]; first | (rw [if_pos (by assumption)]; done) | (rw [if_neg (by assumption), if_pos ⟨by assumption, by assumption⟩]; done) | (rw [if_neg (by assumption), if_neg (by intro q; first | exact q.2 c_37 | (rw [q.1] at c_16; cases c_16))]; first | (rw [if_pos (by assumption)]; done) | (rw [if_neg (by omega)]; done)))) (by rfl) (fun _ e => Option.some.inj e) (Nat.le_of_ble_eq_true rfl) (Nat.le_of_ble_eq_true rfl)
      · refine ev_iconst (v := nI 2) dX5_reasonAgainstAnyName_40 rfl ?_
        exact ev_iret dX5_reasonAgainstAnyName_41 rfl rfl (by exact nR (by rw [sWhyAny]; first | (rw [if_pos (by assumption)]; done) | (rw [if_neg (by assumption), if_pos ⟨by assumption, by assumption⟩]; done) | (rw [if_neg (by assumption), if_neg (by intro q; first | exact q.2 c_37 | (rw [q.1] at c_16; cases c_16))]; first | (rw [if_pos (by assumption)]; done) | (rw [if_neg (by omega)]; done)))) (by rfl) (fun _ e => Option.some.inj e) (Nat.le_of_ble_eq_true rfl) (Nat.le_of_ble_eq_true rfl)
  · refine ev_iconst (v := nI 1) dX5_reasonAgainstAnyName_5 rfl ?_
    exact ev_iret dX5_reasonAgainstAnyName_6 rfl rfl (by exact nR (by rw [sWhyAny]; first | (rw [if_pos (by assumption)]; done) | (rw [if_neg (by assumption), if_pos ⟨by assumption, by assumption⟩]; done) | (rw [if_neg (by assumption), if_neg (by intro q; first | exact q.2 c_37 | (rw [q.1] at c_16; cases c_16))]; first | (rw [if_pos (by assumption)]; done) | (rw [if_neg (by omega)]; done)))) (by rfl) (fun _ e => Option.some.inj e) (Nat.le_of_ble_eq_true rfl) (Nat.le_of_ble_eq_true rfl)
set_option maxHeartbeats 4000000 in
set_option maxRecDepth 20000 in
theorem c_X5_isTaken {h : eH} {n r : Nat} {σ : St} (hR : eRg h r σ) (hO : eOK σ) {b m c : Nat} {ex : Option Nat} (hb : b < 2 ^ 31) (hm : m < 2 ^ 31) (hc : c < 2 ^ 31) (hex : ∀ k, ex = some k → k < 2 ^ 31) : kX5_isTaken [.ref r, .int (nI b), .int (nI m), .int (nI c), .int (oI ex)] h n (.inl (some (.int (bI (sNameOn σ b ex m c).isSome))), (· = h), some n) 0 0 := by
  refine eM.of RX5 "isTaken" [(0, .ref r), (1, .int (nI b)), (2, .int (nI m)), (3, .int (nI c)), (4, .int (oI ex))] pn_X5 rfl rfl (Nat.le_of_ble_eq_true rfl) rfl ?_
  have hB : eB σ := hO.1
  have hz := hO.2.1
  have hz2 := hO.2.2.1
  have hL := hO.2.2.2.1
  obtain ⟨r0, hP, hN, hS⟩ := hR
  obtain ⟨p0, p1, p2, p3, p4, p5⟩ := id hP
  obtain ⟨n0, n1, n2, n3, n4, n5, n6, n7, n8, n9⟩ := id hN
  refine ev_iconst (v := nI 0) dX5_isTaken_0 rfl ?_
  refine ev_istore dX5_isTaken_1 (Nat.le_of_ble_eq_true rfl) ?_
  have H_3 : ∀ (d_3 : Nat) (k : Nat), d_3 = σ 0 1 - k → (k ≤ σ 0 1) → (fst (fun k => decide (some (σ 9 k) ≠ ex) && (decide (σ 3 (σ 9 k) = b) && sIs σ k m c)) k = none) → eV mX5_isTaken 3 [(0, .ref r), (1, .int (nI b)), (2, .int (nI m)), (3, .int (nI c)), (4, .int (oI ex)), (5, .int (nI k))] [] (h, n, 0, 0) (.inl (some (.int (bI (sNameOn σ b ex m c).isSome))), (· = h), some n) 0 0 := by
    intro d_3
    induction d_3 using Nat.strongRecOn with
    | _ d_3 ih_3 =>
    intro k hd_3 hk hf
    refine ev_iload dX5_isTaken_3 rfl ?_
    refine ev_aload_n dX5_isTaken_5 rfl rfl ?_
    refine ev_getfield dX5_isTaken_6 fl_X5_21 (by first | assumption | omega | exact (hL k (by omega)).1) rfl ?_
    refine ev_getfield dX5_isTaken_9 fl_X5_45 (by first | assumption | omega | exact (hL k (by omega)).1) rfl ?_
    first | ((with_reducible show eV _ _ _ (Value.int (nI _) :: Value.int (nI _) :: _) _ _ _ _); refine ev_icmp_geN (tgt := 70) dX5_isTaken_12 (by decide) (by first | exact hB _ _ | omega) (by first | exact hB _ _ | omega) (fun c_12 => ?_) (fun c_12 => ?_)) | ((with_reducible show eV _ _ _ (Value.int (nI _) :: _) _ _ _ _); refine ev_icmp_geZN (tgt := 70) dX5_isTaken_12 (by decide) (by first | exact hB _ _ | omega) (fun c_12 => ?_) (fun c_12 => ?_)) | ((with_reducible show eV _ _ _ (_ :: Value.int (nI _) :: _) _ _ _ _); refine ev_icmp_geNZ (tgt := 70) dX5_isTaken_12 (by decide) (by first | exact hB _ _ | omega) (fun c_12 => ?_) (fun c_12 => ?_)) | (refine ev_icmp_geZZ (tgt := 70) dX5_isTaken_12 (by decide) (fun c_12 => ?_) (fun c_12 => ?_))
    · refine ev_iconst (v := nI 0) dX5_isTaken_70 rfl ?_
      exact ev_iret dX5_isTaken_71 rfl (by first | rfl | exact bI_n _) (by exact bR0 (by have e : k = σ 0 1 := (by omega); rw [sNameOn, ← e, hf]; rfl)) (by rfl) (fun _ e => Option.some.inj e) (Nat.le_of_ble_eq_true rfl) (Nat.le_of_ble_eq_true rfl)
    · refine ev_aload_n dX5_isTaken_15 rfl rfl ?_
      refine ev_getfield dX5_isTaken_16 fl_X5_21 (by first | assumption | omega | exact (hL k (by omega)).1) rfl ?_
      refine ev_getfield dX5_isTaken_19 fl_X5_82 (by first | assumption | omega | exact (hL k (by omega)).1) rfl ?_
      refine ev_iload dX5_isTaken_22 rfl ?_
      refine ev_ialoadA dX5_isTaken_24 (by first | assumption | omega | exact (hL k (by omega)).1) (by first | assumption | omega | exact (hL k (by omega)).1) ?_
      refine ev_istore dX5_isTaken_25 (Nat.le_of_ble_eq_true rfl) ?_
      refine ev_iload dX5_isTaken_27 rfl ?_
      refine ev_iload dX5_isTaken_29 rfl ?_
      first | ((with_reducible show eV _ _ _ (Value.int (nI _) :: Value.int (nI _) :: _) _ _ _ _); refine ev_icmp_eqN (tgt := 64) dX5_isTaken_31 (by decide) (by first | exact hB _ _ | omega) (by first | exact hB _ _ | omega) (fun c_31 => ?_) (fun c_31 => ?_)) | ((with_reducible show eV _ _ _ (Value.int (-1) :: Value.int (oI _) :: _) _ _ _ _); refine ev_icmp_eqO (tgt := 64) dX5_isTaken_31 (by decide) (by first | assumption | (intro k9 h9; exact absurd h9 (by simp)) | (intro k9 h9; have := (fst_lt h9).1; omega) | (intro k9 h9; cases h9; omega)) (fun c_31 => ?_) (fun c_31 => ?_)) | ((with_reducible show eV _ _ _ (Value.int (oI _) :: Value.int (nI _) :: _) _ _ _ _); refine ev_icmp_eqNO (tgt := 64) dX5_isTaken_31 (by decide) (by first | exact hB _ _ | omega) (by first | assumption | (intro k9 h9; exact absurd h9 (by simp)) | (intro k9 h9; have := (fst_lt h9).1; omega) | (intro k9 h9; cases h9; omega)) (fun c_31 => ?_) (fun c_31 => ?_)) | ((with_reducible show eV _ _ _ (Value.int (nI _) :: _) _ _ _ _); refine ev_icmp_eqZN (tgt := 64) dX5_isTaken_31 (by decide) (by first | exact hB _ _ | omega) (fun c_31 => ?_) (fun c_31 => ?_)) | ((with_reducible show eV _ _ _ (_ :: Value.int (nI _) :: _) _ _ _ _); refine ev_icmp_eqNZ (tgt := 64) dX5_isTaken_31 (by decide) (by first | exact hB _ _ | omega) (fun c_31 => ?_) (fun c_31 => ?_)) | (refine ev_icmp_eqZZ (tgt := 64) dX5_isTaken_31 (by decide) (fun c_31 => ?_) (fun c_31 => ?_))
      · first | refine ev_iincN dX5_isTaken_64 rfl (Nat.le_of_ble_eq_true rfl) ?_ | refine ev_iinc dX5_isTaken_64 rfl rfl (Nat.le_of_ble_eq_true rfl) ?_
        refine ev_goto (tgt := 3) dX5_isTaken_67 (by decide) ?_
        exact (ih_3 _ (by omega) _  rfl (by first | omega | assumption | rfl) (by exact fst_s hf (by first | (simp [c_59]; done) | (simp [c_45]; done) | (simp [c_31]; done)))).sub1 ⟨rfl, rfl, rfl, rfl, rfl, rfl, trivial⟩ rfl
      · refine ev_aload_n dX5_isTaken_34 rfl rfl ?_
        refine ev_getfield dX5_isTaken_35 fl_X5_12 (by first | assumption | omega | exact (hL k (by omega)).1) rfl ?_
        refine ev_getfield dX5_isTaken_38 fl_X5_63 (by first | assumption | omega | exact (hL k (by omega)).1) rfl ?_
        refine ev_iload dX5_isTaken_41 rfl ?_
        refine ev_ialoadA dX5_isTaken_43 (by first | assumption | omega | exact (hL k (by omega)).1) (by first | assumption | omega | exact (hL k (by omega)).1) ?_
        refine ev_iload_n dX5_isTaken_44 rfl rfl ?_
        first | ((with_reducible show eV _ _ _ (Value.int (nI _) :: Value.int (nI _) :: _) _ _ _ _); refine ev_icmp_neN (tgt := 64) dX5_isTaken_45 (by decide) (by first | exact hB _ _ | omega) (by first | exact hB _ _ | omega) (fun c_45 => ?_) (fun c_45 => ?_)) | ((with_reducible show eV _ _ _ (Value.int (-1) :: Value.int (oI _) :: _) _ _ _ _); refine ev_icmp_neO (tgt := 64) dX5_isTaken_45 (by decide) (by first | assumption | (intro k9 h9; exact absurd h9 (by simp)) | (intro k9 h9; have := (fst_lt h9).1; omega) | (intro k9 h9; cases h9; omega)) (fun c_45 => ?_) (fun c_45 => ?_)) | ((with_reducible show eV _ _ _ (Value.int (nI _) :: _) _ _ _ _); refine ev_icmp_neZN (tgt := 64) dX5_isTaken_45 (by decide) (by first | exact hB _ _ | omega) (fun c_45 => ?_) (fun c_45 => ?_)) | ((with_reducible show eV _ _ _ (_ :: Value.int (nI _) :: _) _ _ _ _); refine ev_icmp_neNZ (tgt := 64) dX5_isTaken_45 (by decide) (by first | exact hB _ _ | omega) (fun c_45 => ?_) (fun c_45 => ?_)) | (refine ev_icmp_neZZ (tgt := 64) dX5_isTaken_45 (by decide) (fun c_45 => ?_) (fun c_45 => ?_))
        · first | refine ev_iincN dX5_isTaken_64 rfl (Nat.le_of_ble_eq_true rfl) ?_ | refine ev_iinc dX5_isTaken_64 rfl rfl (Nat.le_of_ble_eq_true rfl) ?_
          refine ev_goto (tgt := 3) dX5_isTaken_67 (by decide) ?_
          exact (ih_3 _ (by omega) _  rfl (by first | omega | assumption | rfl) (by exact fst_s hf (by first | (simp [c_59]; done) | (simp [c_45]; done) | (simp [c_31]; done)))).sub1 ⟨rfl, rfl, rfl, rfl, rfl, rfl, trivial⟩ rfl
        · refine ev_aload_n dX5_isTaken_48 rfl rfl ?_
          refine ev_getfield dX5_isTaken_49 fl_X5_21 (by first | assumption | omega | exact (hL k (by omega)).1) rfl ?_
          refine ev_iload dX5_isTaken_52 rfl ?_
          refine ev_iload_n dX5_isTaken_54 rfl rfl ?_
          refine ev_iload_n dX5_isTaken_55 rfl rfl ?_
          refine ev_callVi dX5_isTaken_56 (c_X2_isAliveAs (by first | assumption | omega | exact (hL k (by omega)).1) (by first | assumption | omega | exact (hL k (by omega)).1) (by first | assumption | omega | exact (hL k (by omega)).1) (by first | assumption | omega | exact (hL k (by omega)).1) (by first | assumption | omega | exact (hL k (by omega)).1)) rfl lk_X5_85 (by first | assumption | omega | exact (hL k (by omega)).1) ⟨Nat.le_of_ble_eq_true rfl, Nat.le_of_ble_eq_true rfl⟩ rfl (Nat.le_of_ble_eq_true rfl) ⟨Nat.le_of_ble_eq_true rfl, Nat.le_of_ble_eq_true rfl⟩ (eRo ?_)
          first | ((with_reducible show eV _ _ _ (Value.int (bI _) :: _) _ _ _ _); refine ev_if_eqB (tgt := 64) dX5_isTaken_59 (by decide) (fun c_59 => ?_) (fun c_59 => ?_)) | ((with_reducible show eV _ _ _ (Value.int (nI _) :: _) _ _ _ _); refine ev_if_eqN (tgt := 64) dX5_isTaken_59 (by decide) (by first | exact hB _ _ | omega) (fun c_59 => ?_) (fun c_59 => ?_)) | (refine ev_if_eqZ (tgt := 64) dX5_isTaken_59 (by decide) (fun c_59 => ?_) (fun c_59 => ?_))
          · first | refine ev_iincN dX5_isTaken_64 rfl (Nat.le_of_ble_eq_true rfl) ?_ | refine ev_iinc dX5_isTaken_64 rfl rfl (Nat.le_of_ble_eq_true rfl) ?_
            refine ev_goto (tgt := 3) dX5_isTaken_67 (by decide) ?_
            exact (ih_3 _ (by omega) _  rfl (by first | omega | assumption | rfl) (by exact fst_s hf (by first | (simp [c_59]; done) | (simp [c_45]; done) | (simp [c_31]; done)))).sub1 ⟨rfl, rfl, rfl, rfl, rfl, rfl, trivial⟩ rfl
          · refine ev_iconst (v := nI 1) dX5_isTaken_62 rfl ?_
            exact ev_iret dX5_isTaken_63 rfl (by first | rfl | exact bI_n _) (by exact bR1 (by rw [sNameOn, fst_up hf (by simp [c_59, c_45, c_31]; done) (by omega)]; rfl)) (by rfl) (fun _ e => Option.some.inj e) (Nat.le_of_ble_eq_true rfl) (Nat.le_of_ble_eq_true rfl)
  exact (H_3 _ 0 rfl (by first | omega | assumption | rfl) (by first | omega | assumption | rfl)).sub1 ⟨rfl, rfl, rfl, rfl, rfl, rfl, trivial⟩ rfl
set_option maxHeartbeats 4000000 in
set_option maxRecDepth 20000 in
theorem c_X5_reasonAgainst {h : eH} {n r : Nat} {σ : St} (hR : eRg h r σ) (hO : eOK σ) {g p m c : Nat} (hg : g < σ 0 0) (hp : p < σ 0 0) (hm : m < 2 ^ 31) (hc : c < 2 ^ 31) : kX5_reasonAgainst [.ref r, .int (nI g), .int (nI p), .int (nI m), .int (nI c)] h n (.inl (some (.int (nI (sWhy σ g p m c)))), (· = h), some n) 0 0 := by
  refine eM.of RX5 "reasonAgainst" [(0, .ref r), (1, .int (nI g)), (2, .int (nI p)), (3, .int (nI m)), (4, .int (nI c))] pn_X5 rfl rfl (Nat.le_of_ble_eq_true rfl) rfl ?_
  have hB : eB σ := hO.1
  have hz := hO.2.1
  have hw : sWhyAny σ g p ≤ 3 := by unfold sWhyAny; split; omega; split; omega; split <;> omega
  obtain ⟨r0, hP, hN, hS⟩ := id hR
  obtain ⟨p0, p1, p2, p3, p4, p5⟩ := id hP
  obtain ⟨n0, n1, n2, n3, n4, n5, n6, n7, n8, n9⟩ := id hN
  refine ev_aload_n dX5_reasonAgainst_0 rfl rfl ?_
  refine ev_iload_n dX5_reasonAgainst_1 rfl rfl ?_
  refine ev_iload_n dX5_reasonAgainst_2 rfl rfl ?_
  refine ev_callVi dX5_reasonAgainst_3 (c_X5_reasonAgainstAnyName (by first | assumption | omega) (by first | assumption | omega) (by first | assumption | omega) (by first | assumption | omega)) rfl lk_X5_59 (by first | assumption | omega) ⟨Nat.le_of_ble_eq_true rfl, Nat.le_of_ble_eq_true rfl⟩ rfl (Nat.le_of_ble_eq_true rfl) ⟨Nat.le_of_ble_eq_true rfl, Nat.le_of_ble_eq_true rfl⟩ (eRo ?_)
  refine ev_istore dX5_reasonAgainst_6 (Nat.le_of_ble_eq_true rfl) ?_
  refine ev_iload dX5_reasonAgainst_8 rfl ?_
  first | ((with_reducible show eV _ _ _ (Value.int (bI _) :: _) _ _ _ _); refine ev_if_eqB (tgt := 16) dX5_reasonAgainst_10 (by decide) (fun c_10 => ?_) (fun c_10 => ?_)) | ((with_reducible show eV _ _ _ (Value.int (nI _) :: _) _ _ _ _); refine ev_if_eqN (tgt := 16) dX5_reasonAgainst_10 (by decide) (by first | exact hB _ _ | omega) (fun c_10 => ?_) (fun c_10 => ?_)) | (refine ev_if_eqZ (tgt := 16) dX5_reasonAgainst_10 (by decide) (fun c_10 => ?_) (fun c_10 => ?_))
  · refine ev_aload_n dX5_reasonAgainst_16 rfl rfl ?_
    refine ev_aload_n dX5_reasonAgainst_17 rfl rfl ?_
    refine ev_getfield dX5_reasonAgainst_18 fl_X5_12 (by first | assumption | omega) rfl ?_
    refine ev_getfield dX5_reasonAgainst_21 fl_X5_63 (by first | assumption | omega) rfl ?_
    refine ev_iload_n dX5_reasonAgainst_24 rfl rfl ?_
    refine ev_ialoadA dX5_reasonAgainst_25 (by first | assumption | omega) (by first | assumption | omega) ?_
    refine ev_iload_n dX5_reasonAgainst_26 rfl rfl ?_
    refine ev_iload dX5_reasonAgainst_27 rfl ?_
    refine ev_iconst (v := -1) dX5_reasonAgainst_29 (by decide) ?_
    refine ev_callVi dX5_reasonAgainst_30 (c_X5_isTaken (ex := none) hR hO (hB _ _) hm hc (fun _ h9 => nomatch h9)) rfl lk_X5_66 (by first | assumption | omega) ⟨Nat.le_of_ble_eq_true rfl, Nat.le_of_ble_eq_true rfl⟩ rfl (Nat.le_of_ble_eq_true rfl) ⟨Nat.le_of_ble_eq_true rfl, Nat.le_of_ble_eq_true rfl⟩ (eRo ?_)
    first | ((with_reducible show eV _ _ _ (Value.int (bI _) :: _) _ _ _ _); refine ev_if_eqB (tgt := 38) dX5_reasonAgainst_33 (by decide) (fun c_33 => ?_) (fun c_33 => ?_)) | ((with_reducible show eV _ _ _ (Value.int (nI _) :: _) _ _ _ _); refine ev_if_eqN (tgt := 38) dX5_reasonAgainst_33 (by decide) (by first | exact hB _ _ | omega) (fun c_33 => ?_) (fun c_33 => ?_)) | (refine ev_if_eqZ (tgt := 38) dX5_reasonAgainst_33 (by decide) (fun c_33 => ?_) (fun c_33 => ?_))
    · refine ev_aload_n dX5_reasonAgainst_38 rfl rfl ?_
      refine ev_getfield dX5_reasonAgainst_39 fl_X5_21 (by first | assumption | omega) rfl ?_
      refine ev_callVi dX5_reasonAgainst_42 (c_X2_isFull (by first | assumption | omega) (by first | assumption | omega)) rfl lk_X5_70 (by first | assumption | omega) ⟨Nat.le_of_ble_eq_true rfl, Nat.le_of_ble_eq_true rfl⟩ rfl (Nat.le_of_ble_eq_true rfl) ⟨Nat.le_of_ble_eq_true rfl, Nat.le_of_ble_eq_true rfl⟩ (eRo ?_)
      first | ((with_reducible show eV _ _ _ (Value.int (bI _) :: _) _ _ _ _); refine ev_if_eqB (tgt := 52) dX5_reasonAgainst_45 (by decide) (fun c_45 => ?_) (fun c_45 => ?_)) | ((with_reducible show eV _ _ _ (Value.int (nI _) :: _) _ _ _ _); refine ev_if_eqN (tgt := 52) dX5_reasonAgainst_45 (by decide) (by first | exact hB _ _ | omega) (fun c_45 => ?_) (fun c_45 => ?_)) | (refine ev_if_eqZ (tgt := 52) dX5_reasonAgainst_45 (by decide) (fun c_45 => ?_) (fun c_45 => ?_))
      · refine ev_iconst (v := nI 0) dX5_reasonAgainst_52 rfl ?_
        exact ev_iret dX5_reasonAgainst_53 rfl rfl (by exact nR (by rw [sWhy]; first | (rw [if_pos (by assumption)]; done) | (rw [if_neg (by omega), if_pos (by assumption)]; done) | (rw [if_neg (by omega), if_neg (by simp [c_33])]; first | (rw [if_pos (by simpa using c_45)]; done) | (rw [if_neg (by simpa using c_45)]; done)))) (by rfl) (fun _ e => Option.some.inj e) (Nat.le_of_ble_eq_true rfl) (Nat.le_of_ble_eq_true rfl)
      · refine ev_iconst (v := nI 5) dX5_reasonAgainst_48 rfl ?_
        refine ev_goto (tgt := 53) dX5_reasonAgainst_49 (by decide) ?_
        exact ev_iret dX5_reasonAgainst_53 rfl rfl (by exact nR (by rw [sWhy]; first | (rw [if_pos (by assumption)]; done) | (rw [if_neg (by omega), if_pos (by assumption)]; done) | (rw [if_neg (by omega), if_neg (by simp [c_33])]; first | (rw [if_pos (by simpa using c_45)]; done) | (rw [if_neg (by simpa using c_45)]; done)))) (by rfl) (fun _ e => Option.some.inj e) (Nat.le_of_ble_eq_true rfl) (Nat.le_of_ble_eq_true rfl)
    · refine ev_iconst (v := nI 4) dX5_reasonAgainst_36 rfl ?_
      exact ev_iret dX5_reasonAgainst_37 rfl rfl (by exact nR (by rw [sWhy]; first | (rw [if_pos (by assumption)]; done) | (rw [if_neg (by omega), if_pos (by assumption)]; done) | (rw [if_neg (by omega), if_neg (by simp [c_33])]; first | (rw [if_pos (by simpa using c_45)]; done) | (rw [if_neg (by simpa using c_45)]; done)))) (by rfl) (fun _ e => Option.some.inj e) (Nat.le_of_ble_eq_true rfl) (Nat.le_of_ble_eq_true rfl)
  · refine ev_iload dX5_reasonAgainst_13 rfl ?_
    exact ev_iret dX5_reasonAgainst_15 rfl rfl (by exact nR (by rw [sWhy]; first | (rw [if_pos (by assumption)]; done) | (rw [if_neg (by omega), if_pos (by assumption)]; done) | (rw [if_neg (by omega), if_neg (by simp [c_33])]; first | (rw [if_pos (by simpa using c_45)]; done) | (rw [if_neg (by simpa using c_45)]; done)))) (by rfl) (fun _ e => Option.some.inj e) (Nat.le_of_ble_eq_true rfl) (Nat.le_of_ble_eq_true rfl)
set_option maxHeartbeats 4000000 in
set_option maxRecDepth 20000 in
theorem c_X5_isKeptFrom {h : eH} {n r : Nat} {σ : St} (hR : eRg h r σ) (hO : eOK σ) {p b : Nat} (hp : p < 2 ^ 31) (hb : b < 2 ^ 31) : kX5_isKeptFrom [.ref r, .int (nI p), .int (nI b)] h n (.inl (some (.int (bI (sKept σ p b)))), (· = h), some n) 0 0 := by
  refine eM.of RX5 "isKeptFrom" [(0, .ref r), (1, .int (nI p)), (2, .int (nI b))] pn_X5 rfl rfl (Nat.le_of_ble_eq_true rfl) rfl ?_
  have hB : eB σ := hO.1
  have hz := hO.2.1
  have hz2 := hO.2.2.1
  obtain ⟨r0, hP, hN, hS⟩ := id hR
  obtain ⟨p0, p1, p2, p3, p4, p5⟩ := id hP
  obtain ⟨n0, n1, n2, n3, n4, n5, n6, n7, n8, n9⟩ := id hN
  refine ev_iconst (v := nI 0) dX5_isKeptFrom_0 rfl ?_
  refine ev_istore_n dX5_isKeptFrom_1 rfl (Nat.le_of_ble_eq_true rfl) ?_
  have H_2 : ∀ (d_2 : Nat) (k : Nat), d_2 = σ 0 1 - k → (k ≤ σ 0 1) → (fst (fun k => decide (σ 9 k = p) && (sAlive σ k && (sNameOn σ b (some p) (σ 6 k) (σ 7 k)).isSome)) k = none) → eV mX5_isKeptFrom 2 [(0, .ref r), (1, .int (nI p)), (2, .int (nI b)), (3, .int (nI k))] [] (h, n, 0, 0) (.inl (some (.int (bI (sKept σ p b)))), (· = h), some n) 0 0 := by
    intro d_2
    induction d_2 using Nat.strongRecOn with
    | _ d_2 ih_2 =>
    intro k hd_2 hk hf
    refine ev_iload_n dX5_isKeptFrom_2 rfl rfl ?_
    refine ev_aload_n dX5_isKeptFrom_3 rfl rfl ?_
    refine ev_getfield dX5_isKeptFrom_4 fl_X5_21 (by first | assumption | omega) rfl ?_
    refine ev_getfield dX5_isKeptFrom_7 fl_X5_45 (by first | assumption | omega) rfl ?_
    first | ((with_reducible show eV _ _ _ (Value.int (nI _) :: Value.int (nI _) :: _) _ _ _ _); refine ev_icmp_geN (tgt := 72) dX5_isKeptFrom_10 (by decide) (by first | exact hB _ _ | omega) (by first | exact hB _ _ | omega) (fun c_10 => ?_) (fun c_10 => ?_)) | ((with_reducible show eV _ _ _ (Value.int (nI _) :: _) _ _ _ _); refine ev_icmp_geZN (tgt := 72) dX5_isKeptFrom_10 (by decide) (by first | exact hB _ _ | omega) (fun c_10 => ?_) (fun c_10 => ?_)) | ((with_reducible show eV _ _ _ (_ :: Value.int (nI _) :: _) _ _ _ _); refine ev_icmp_geNZ (tgt := 72) dX5_isKeptFrom_10 (by decide) (by first | exact hB _ _ | omega) (fun c_10 => ?_) (fun c_10 => ?_)) | (refine ev_icmp_geZZ (tgt := 72) dX5_isKeptFrom_10 (by decide) (fun c_10 => ?_) (fun c_10 => ?_))
    · refine ev_iconst (v := nI 0) dX5_isKeptFrom_72 rfl ?_
      exact ev_iret dX5_isKeptFrom_73 rfl (by first | rfl | exact bI_n _) (by exact bR0 (by have e : k = σ 0 1 := (by omega); rw [sKept, ← e, hf]; rfl)) (by rfl) (fun _ e => Option.some.inj e) (Nat.le_of_ble_eq_true rfl) (Nat.le_of_ble_eq_true rfl)
    · refine ev_aload_n dX5_isKeptFrom_13 rfl rfl ?_
      refine ev_getfield dX5_isKeptFrom_14 fl_X5_21 (by first | assumption | omega) rfl ?_
      refine ev_getfield dX5_isKeptFrom_17 fl_X5_82 (by first | assumption | omega) rfl ?_
      refine ev_iload_n dX5_isKeptFrom_20 rfl rfl ?_
      refine ev_ialoadA dX5_isKeptFrom_21 (by first | assumption | omega) (by first | assumption | omega) ?_
      refine ev_iload_n dX5_isKeptFrom_22 rfl rfl ?_
      first | ((with_reducible show eV _ _ _ (Value.int (nI _) :: Value.int (nI _) :: _) _ _ _ _); refine ev_icmp_neN (tgt := 66) dX5_isKeptFrom_23 (by decide) (by first | exact hB _ _ | omega) (by first | exact hB _ _ | omega) (fun c_23 => ?_) (fun c_23 => ?_)) | ((with_reducible show eV _ _ _ (Value.int (-1) :: Value.int (oI _) :: _) _ _ _ _); refine ev_icmp_neO (tgt := 66) dX5_isKeptFrom_23 (by decide) (by first | assumption | (intro k9 h9; exact absurd h9 (by simp)) | (intro k9 h9; have := (fst_lt h9).1; omega) | (intro k9 h9; cases h9; omega)) (fun c_23 => ?_) (fun c_23 => ?_)) | ((with_reducible show eV _ _ _ (Value.int (nI _) :: _) _ _ _ _); refine ev_icmp_neZN (tgt := 66) dX5_isKeptFrom_23 (by decide) (by first | exact hB _ _ | omega) (fun c_23 => ?_) (fun c_23 => ?_)) | ((with_reducible show eV _ _ _ (_ :: Value.int (nI _) :: _) _ _ _ _); refine ev_icmp_neNZ (tgt := 66) dX5_isKeptFrom_23 (by decide) (by first | exact hB _ _ | omega) (fun c_23 => ?_) (fun c_23 => ?_)) | (refine ev_icmp_neZZ (tgt := 66) dX5_isKeptFrom_23 (by decide) (fun c_23 => ?_) (fun c_23 => ?_))
      · first | refine ev_iincN dX5_isKeptFrom_66 rfl (Nat.le_of_ble_eq_true rfl) ?_ | refine ev_iinc dX5_isKeptFrom_66 rfl rfl (Nat.le_of_ble_eq_true rfl) ?_
        refine ev_goto (tgt := 2) dX5_isKeptFrom_69 (by decide) ?_
        exact (ih_2 _ (by omega) _  rfl (by first | omega | assumption | rfl) (by exact fst_s hf (by first | (rw [c_61]; simp; done) | (simp [c_34]; done) | (simp [c_23]; done)))).sub1 ⟨rfl, rfl, rfl, rfl, trivial⟩ rfl
      · refine ev_aload_n dX5_isKeptFrom_26 rfl rfl ?_
        refine ev_getfield dX5_isKeptFrom_27 fl_X5_21 (by first | assumption | omega) rfl ?_
        refine ev_iload_n dX5_isKeptFrom_30 rfl rfl ?_
        refine ev_callVi dX5_isKeptFrom_31 (c_X2_isAlive (by first | assumption | omega) (by first | assumption | omega) (by first | assumption | omega)) rfl lk_X5_89 (by first | assumption | omega) ⟨Nat.le_of_ble_eq_true rfl, Nat.le_of_ble_eq_true rfl⟩ rfl (Nat.le_of_ble_eq_true rfl) ⟨Nat.le_of_ble_eq_true rfl, Nat.le_of_ble_eq_true rfl⟩ (eRo ?_)
        first | ((with_reducible show eV _ _ _ (Value.int (bI _) :: _) _ _ _ _); refine ev_if_eqB (tgt := 66) dX5_isKeptFrom_34 (by decide) (fun c_34 => ?_) (fun c_34 => ?_)) | ((with_reducible show eV _ _ _ (Value.int (nI _) :: _) _ _ _ _); refine ev_if_eqN (tgt := 66) dX5_isKeptFrom_34 (by decide) (by first | exact hB _ _ | omega) (fun c_34 => ?_) (fun c_34 => ?_)) | (refine ev_if_eqZ (tgt := 66) dX5_isKeptFrom_34 (by decide) (fun c_34 => ?_) (fun c_34 => ?_))
        · first | refine ev_iincN dX5_isKeptFrom_66 rfl (Nat.le_of_ble_eq_true rfl) ?_ | refine ev_iinc dX5_isKeptFrom_66 rfl rfl (Nat.le_of_ble_eq_true rfl) ?_
          refine ev_goto (tgt := 2) dX5_isKeptFrom_69 (by decide) ?_
          exact (ih_2 _ (by omega) _  rfl (by first | omega | assumption | rfl) (by exact fst_s hf (by first | (rw [c_61]; simp; done) | (simp [c_34]; done) | (simp [c_23]; done)))).sub1 ⟨rfl, rfl, rfl, rfl, trivial⟩ rfl
        · refine ev_aload_n dX5_isKeptFrom_37 rfl rfl ?_
          refine ev_iload_n dX5_isKeptFrom_38 rfl rfl ?_
          refine ev_aload_n dX5_isKeptFrom_39 rfl rfl ?_
          refine ev_getfield dX5_isKeptFrom_40 fl_X5_21 (by first | assumption | omega) rfl ?_
          refine ev_getfield dX5_isKeptFrom_43 fl_X5_93 (by first | assumption | omega) rfl ?_
          refine ev_iload_n dX5_isKeptFrom_46 rfl rfl ?_
          refine ev_ialoadA dX5_isKeptFrom_47 (by first | assumption | omega) (by first | assumption | omega) ?_
          refine ev_aload_n dX5_isKeptFrom_48 rfl rfl ?_
          refine ev_getfield dX5_isKeptFrom_49 fl_X5_21 (by first | assumption | omega) rfl ?_
          refine ev_getfield dX5_isKeptFrom_52 fl_X5_96 (by first | assumption | omega) rfl ?_
          refine ev_iload_n dX5_isKeptFrom_55 rfl rfl ?_
          refine ev_ialoadA dX5_isKeptFrom_56 (by first | assumption | omega) (by first | assumption | omega) ?_
          refine ev_iload_n dX5_isKeptFrom_57 rfl rfl ?_
          refine ev_callVi dX5_isKeptFrom_58 (c_X5_isTaken (ex := some p) hR hO hb (hB _ _) (hB _ _) (fun _ h9 => by cases h9; exact hp)) rfl lk_X5_66 (by first | assumption | omega) ⟨Nat.le_of_ble_eq_true rfl, Nat.le_of_ble_eq_true rfl⟩ rfl (Nat.le_of_ble_eq_true rfl) ⟨Nat.le_of_ble_eq_true rfl, Nat.le_of_ble_eq_true rfl⟩ (eRo ?_)
          first | ((with_reducible show eV _ _ _ (Value.int (bI _) :: _) _ _ _ _); refine ev_if_eqB (tgt := 66) dX5_isKeptFrom_61 (by decide) (fun c_61 => ?_) (fun c_61 => ?_)) | ((with_reducible show eV _ _ _ (Value.int (nI _) :: _) _ _ _ _); refine ev_if_eqN (tgt := 66) dX5_isKeptFrom_61 (by decide) (by first | exact hB _ _ | omega) (fun c_61 => ?_) (fun c_61 => ?_)) | (refine ev_if_eqZ (tgt := 66) dX5_isKeptFrom_61 (by decide) (fun c_61 => ?_) (fun c_61 => ?_))
          · first | refine ev_iincN dX5_isKeptFrom_66 rfl (Nat.le_of_ble_eq_true rfl) ?_ | refine ev_iinc dX5_isKeptFrom_66 rfl rfl (Nat.le_of_ble_eq_true rfl) ?_
            refine ev_goto (tgt := 2) dX5_isKeptFrom_69 (by decide) ?_
            exact (ih_2 _ (by omega) _  rfl (by first | omega | assumption | rfl) (by exact fst_s hf (by first | (rw [c_61]; simp; done) | (simp [c_34]; done) | (simp [c_23]; done)))).sub1 ⟨rfl, rfl, rfl, rfl, trivial⟩ rfl
          · refine ev_iconst (v := nI 1) dX5_isKeptFrom_64 rfl ?_
            exact ev_iret dX5_isKeptFrom_65 rfl (by first | rfl | exact bI_n _) (by exact bR1 (by rw [sKept, fst_up hf (by rw [c_61]; simp [c_34, c_23]; done) (by omega)]; rfl)) (by rfl) (fun _ e => Option.some.inj e) (Nat.le_of_ble_eq_true rfl) (Nat.le_of_ble_eq_true rfl)
  exact (H_2 _ 0 rfl (by first | omega | assumption | rfl) (by first | omega | assumption | rfl)).sub1 ⟨rfl, rfl, rfl, rfl, trivial⟩ rfl
set_option maxHeartbeats 4000000 in
set_option maxRecDepth 20000 in
theorem c_X5_firstBrotherNamed {h : eH} {n r : Nat} {σ : St} (hR : eRg h r σ) (hO : eOK σ) {p m c : Nat} (hp : p < σ 0 0) (hm : m < 2 ^ 31) (hc : c < 2 ^ 31) : kX5_firstBrotherNamed [.ref r, .int (nI p), .int (nI m), .int (nI c)] h n (.inl (some (.int (oI (sFBN σ p m c)))), (· = h), some n) 0 0 := by
  refine eM.of RX5 "firstBrotherNamed" [(0, .ref r), (1, .int (nI p)), (2, .int (nI m)), (3, .int (nI c))] pn_X5 rfl rfl (Nat.le_of_ble_eq_true rfl) rfl ?_
  have hB : eB σ := hO.1
  have hz := hO.2.1
  have hz2 := hO.2.2.1
  obtain ⟨r0, hP, hN, hS⟩ := id hR
  obtain ⟨p0, p1, p2, p3, p4, p5⟩ := id hP
  obtain ⟨n0, n1, n2, n3, n4, n5, n6, n7, n8, n9⟩ := id hN
  refine ev_iconst (v := nI 0) dX5_firstBrotherNamed_0 rfl ?_
  refine ev_istore dX5_firstBrotherNamed_1 (Nat.le_of_ble_eq_true rfl) ?_
  have H_3 : ∀ (d_3 : Nat) (k : Nat), d_3 = σ 0 0 - k → (k ≤ σ 0 0) → (fst (fun q => sBro σ p q && (sNameOf σ q m c).isSome) k = none) → eV mX5_firstBrotherNamed 3 [(0, .ref r), (1, .int (nI p)), (2, .int (nI m)), (3, .int (nI c)), (4, .int (nI k))] [] (h, n, 0, 0) (.inl (some (.int (oI (sFBN σ p m c)))), (· = h), some n) 0 0 := by
    intro d_3
    induction d_3 using Nat.strongRecOn with
    | _ d_3 ih_3 =>
    intro k hd_3 hk hf
    refine ev_iload dX5_firstBrotherNamed_3 rfl ?_
    refine ev_aload_n dX5_firstBrotherNamed_5 rfl rfl ?_
    refine ev_getfield dX5_firstBrotherNamed_6 fl_X5_12 (by first | assumption | omega) rfl ?_
    refine ev_getfield dX5_firstBrotherNamed_9 fl_X5_42 (by first | assumption | omega) rfl ?_
    first | ((with_reducible show eV _ _ _ (Value.int (nI _) :: Value.int (nI _) :: _) _ _ _ _); refine ev_icmp_geN (tgt := 52) dX5_firstBrotherNamed_12 (by decide) (by first | exact hB _ _ | omega) (by first | exact hB _ _ | omega) (fun c_12 => ?_) (fun c_12 => ?_)) | ((with_reducible show eV _ _ _ (Value.int (nI _) :: _) _ _ _ _); refine ev_icmp_geZN (tgt := 52) dX5_firstBrotherNamed_12 (by decide) (by first | exact hB _ _ | omega) (fun c_12 => ?_) (fun c_12 => ?_)) | ((with_reducible show eV _ _ _ (_ :: Value.int (nI _) :: _) _ _ _ _); refine ev_icmp_geNZ (tgt := 52) dX5_firstBrotherNamed_12 (by decide) (by first | exact hB _ _ | omega) (fun c_12 => ?_) (fun c_12 => ?_)) | (refine ev_icmp_geZZ (tgt := 52) dX5_firstBrotherNamed_12 (by decide) (fun c_12 => ?_) (fun c_12 => ?_))
    · refine ev_iconst (v := -1) dX5_firstBrotherNamed_52 (by decide) ?_
      exact ev_iret dX5_firstBrotherNamed_53 rfl rfl (by exact oRn (by have e : k = σ 0 0 := (by omega); rw [sFBN, ← e]; exact hf)) (by rfl) (fun _ e => Option.some.inj e) (Nat.le_of_ble_eq_true rfl) (Nat.le_of_ble_eq_true rfl)
    · refine ev_aload_n dX5_firstBrotherNamed_15 rfl rfl ?_
      refine ev_getfield dX5_firstBrotherNamed_16 fl_X5_12 (by first | assumption | omega) rfl ?_
      refine ev_iload_n dX5_firstBrotherNamed_19 rfl rfl ?_
      refine ev_iload dX5_firstBrotherNamed_20 rfl ?_
      refine ev_callVi dX5_firstBrotherNamed_22 (c_X4_areBrothers (by first | assumption | omega) (by first | assumption | omega) (by first | assumption | omega) (by first | assumption | omega)) rfl lk_X5_74 (by first | assumption | omega) ⟨Nat.le_of_ble_eq_true rfl, Nat.le_of_ble_eq_true rfl⟩ rfl (Nat.le_of_ble_eq_true rfl) ⟨Nat.le_of_ble_eq_true rfl, Nat.le_of_ble_eq_true rfl⟩ (eRo ?_)
      first | ((with_reducible show eV _ _ _ (Value.int (bI _) :: _) _ _ _ _); refine ev_if_eqB (tgt := 46) dX5_firstBrotherNamed_25 (by decide) (fun c_25 => ?_) (fun c_25 => ?_)) | ((with_reducible show eV _ _ _ (Value.int (nI _) :: _) _ _ _ _); refine ev_if_eqN (tgt := 46) dX5_firstBrotherNamed_25 (by decide) (by first | exact hB _ _ | omega) (fun c_25 => ?_) (fun c_25 => ?_)) | (refine ev_if_eqZ (tgt := 46) dX5_firstBrotherNamed_25 (by decide) (fun c_25 => ?_) (fun c_25 => ?_))
      · first | refine ev_iincN dX5_firstBrotherNamed_46 rfl (Nat.le_of_ble_eq_true rfl) ?_ | refine ev_iinc dX5_firstBrotherNamed_46 rfl rfl (Nat.le_of_ble_eq_true rfl) ?_
        refine ev_goto (tgt := 3) dX5_firstBrotherNamed_49 (by decide) ?_
        exact (ih_3 _ (by omega) _  rfl (by first | omega | assumption | rfl) (by exact fst_s hf (by first | (simp [c_40]; done) | (simp [c_25]; done)))).sub1 ⟨rfl, rfl, rfl, rfl, rfl, trivial⟩ rfl
      · refine ev_aload_n dX5_firstBrotherNamed_28 rfl rfl ?_
        refine ev_getfield dX5_firstBrotherNamed_29 fl_X5_21 (by first | assumption | omega) rfl ?_
        refine ev_iload dX5_firstBrotherNamed_32 rfl ?_
        refine ev_iload_n dX5_firstBrotherNamed_34 rfl rfl ?_
        refine ev_iload_n dX5_firstBrotherNamed_35 rfl rfl ?_
        refine ev_callVi dX5_firstBrotherNamed_36 (c_X2_aliveNameOf (by first | assumption | omega) (by first | assumption | omega) (by first | assumption | omega) (by first | assumption | omega) (by first | assumption | omega)) rfl lk_X5_99 (by first | assumption | omega) ⟨Nat.le_of_ble_eq_true rfl, Nat.le_of_ble_eq_true rfl⟩ rfl (Nat.le_of_ble_eq_true rfl) ⟨Nat.le_of_ble_eq_true rfl, Nat.le_of_ble_eq_true rfl⟩ (eRo ?_)
        refine ev_iconst (v := -1) dX5_firstBrotherNamed_39 (by decide) ?_
        first | ((with_reducible show eV _ _ _ (Value.int (nI _) :: Value.int (nI _) :: _) _ _ _ _); refine ev_icmp_eqN (tgt := 46) dX5_firstBrotherNamed_40 (by decide) (by first | exact hB _ _ | omega) (by first | exact hB _ _ | omega) (fun c_40 => ?_) (fun c_40 => ?_)) | ((with_reducible show eV _ _ _ (Value.int (-1) :: Value.int (oI _) :: _) _ _ _ _); refine ev_icmp_eqO (tgt := 46) dX5_firstBrotherNamed_40 (by decide) (by first | assumption | (intro k9 h9; exact absurd h9 (by simp)) | (intro k9 h9; have := (fst_lt h9).1; omega) | (intro k9 h9; cases h9; omega)) (fun c_40 => ?_) (fun c_40 => ?_)) | ((with_reducible show eV _ _ _ (Value.int (oI _) :: Value.int (nI _) :: _) _ _ _ _); refine ev_icmp_eqNO (tgt := 46) dX5_firstBrotherNamed_40 (by decide) (by first | exact hB _ _ | omega) (by first | assumption | (intro k9 h9; exact absurd h9 (by simp)) | (intro k9 h9; have := (fst_lt h9).1; omega) | (intro k9 h9; cases h9; omega)) (fun c_40 => ?_) (fun c_40 => ?_)) | ((with_reducible show eV _ _ _ (Value.int (nI _) :: _) _ _ _ _); refine ev_icmp_eqZN (tgt := 46) dX5_firstBrotherNamed_40 (by decide) (by first | exact hB _ _ | omega) (fun c_40 => ?_) (fun c_40 => ?_)) | ((with_reducible show eV _ _ _ (_ :: Value.int (nI _) :: _) _ _ _ _); refine ev_icmp_eqNZ (tgt := 46) dX5_firstBrotherNamed_40 (by decide) (by first | exact hB _ _ | omega) (fun c_40 => ?_) (fun c_40 => ?_)) | (refine ev_icmp_eqZZ (tgt := 46) dX5_firstBrotherNamed_40 (by decide) (fun c_40 => ?_) (fun c_40 => ?_))
        · first | refine ev_iincN dX5_firstBrotherNamed_46 rfl (Nat.le_of_ble_eq_true rfl) ?_ | refine ev_iinc dX5_firstBrotherNamed_46 rfl rfl (Nat.le_of_ble_eq_true rfl) ?_
          refine ev_goto (tgt := 3) dX5_firstBrotherNamed_49 (by decide) ?_
          exact (ih_3 _ (by omega) _  rfl (by first | omega | assumption | rfl) (by exact fst_s hf (by first | (simp [c_40]; done) | (simp [c_25]; done)))).sub1 ⟨rfl, rfl, rfl, rfl, rfl, trivial⟩ rfl
        · refine ev_iload dX5_firstBrotherNamed_43 rfl ?_
          exact ev_iret dX5_firstBrotherNamed_45 rfl rfl (by exact oR (fst_up hf (by simp [c_25, Option.isSome_iff_ne_none, c_40]; done) (by omega))) (by rfl) (fun _ e => Option.some.inj e) (Nat.le_of_ble_eq_true rfl) (Nat.le_of_ble_eq_true rfl)
  exact (H_3 _ 0 rfl (by first | omega | assumption | rfl) (by first | omega | assumption | rfl)).sub1 ⟨rfl, rfl, rfl, rfl, rfl, trivial⟩ rfl
set_option maxHeartbeats 4000000 in
set_option maxRecDepth 20000 in
theorem c_X5_meantByPeople {h : eH} {n r : Nat} {σ : St} (hR : eRg h r σ) (hO : eOK σ) {b m c : Nat} (hb : b < 2 ^ 31) (hm : m < 2 ^ 31) (hc : c < 2 ^ 31) : kX5_meantByPeople [.ref r, .int (nI b), .int (nI m), .int (nI c)] h n (.inl (some (.int (oI (sMeant σ b m c)))), (· = h), some n) 0 0 := by
  refine eM.of RX5 "meantByPeople" [(0, .ref r), (1, .int (nI b)), (2, .int (nI m)), (3, .int (nI c))] pn_X5 rfl rfl (Nat.le_of_ble_eq_true rfl) rfl ?_
  have hB : eB σ := hO.1
  have hz := hO.2.1
  have hz2 := hO.2.2.1
  obtain ⟨r0, hP, hN, hS⟩ := id hR
  obtain ⟨p0, p1, p2, p3, p4, p5⟩ := id hP
  obtain ⟨n0, n1, n2, n3, n4, n5, n6, n7, n8, n9⟩ := id hN
  refine ev_iconst (v := nI 0) dX5_meantByPeople_0 rfl ?_
  refine ev_istore dX5_meantByPeople_1 (Nat.le_of_ble_eq_true rfl) ?_
  have H_3 : ∀ (d_3 : Nat) (k : Nat), d_3 = σ 0 0 - k → (k ≤ σ 0 0) → (fst (fun p => decide (σ 3 p = b) && (sNameOf σ p m c).isSome) k = none) → eV mX5_meantByPeople 3 [(0, .ref r), (1, .int (nI b)), (2, .int (nI m)), (3, .int (nI c)), (4, .int (nI k))] [] (h, n, 0, 0) (.inl (some (.int (oI (sMeant σ b m c)))), (· = h), some n) 0 0 := by
    intro d_3
    induction d_3 using Nat.strongRecOn with
    | _ d_3 ih_3 =>
    intro k hd_3 hk hf
    refine ev_iload dX5_meantByPeople_3 rfl ?_
    refine ev_aload_n dX5_meantByPeople_5 rfl rfl ?_
    refine ev_getfield dX5_meantByPeople_6 fl_X5_12 (by first | assumption | omega) rfl ?_
    refine ev_getfield dX5_meantByPeople_9 fl_X5_42 (by first | assumption | omega) rfl ?_
    first | ((with_reducible show eV _ _ _ (Value.int (nI _) :: Value.int (nI _) :: _) _ _ _ _); refine ev_icmp_geN (tgt := 53) dX5_meantByPeople_12 (by decide) (by first | exact hB _ _ | omega) (by first | exact hB _ _ | omega) (fun c_12 => ?_) (fun c_12 => ?_)) | ((with_reducible show eV _ _ _ (Value.int (nI _) :: _) _ _ _ _); refine ev_icmp_geZN (tgt := 53) dX5_meantByPeople_12 (by decide) (by first | exact hB _ _ | omega) (fun c_12 => ?_) (fun c_12 => ?_)) | ((with_reducible show eV _ _ _ (_ :: Value.int (nI _) :: _) _ _ _ _); refine ev_icmp_geNZ (tgt := 53) dX5_meantByPeople_12 (by decide) (by first | exact hB _ _ | omega) (fun c_12 => ?_) (fun c_12 => ?_)) | (refine ev_icmp_geZZ (tgt := 53) dX5_meantByPeople_12 (by decide) (fun c_12 => ?_) (fun c_12 => ?_))
    · have hf0 : fst (fun p => decide (σ 3 p = b) && (sNameOf σ p m c).isSome) (σ 0 0) = none := by have e : k = σ 0 0 := (by omega); rw [← e]; exact hf
      refine ev_iconst (v := nI 0) dX5_meantByPeople_53 rfl ?_
      refine ev_istore dX5_meantByPeople_54 (Nat.le_of_ble_eq_true rfl) ?_
      have H_56 : ∀ (d_56 : Nat) (k : Nat), d_56 = σ 0 0 - k → (k ≤ σ 0 0) → (fst (fun p => decide (σ 3 p = b) && (sFBN σ p m c).isSome) k = none) → eV mX5_meantByPeople 56 [(0, .ref r), (1, .int (nI b)), (2, .int (nI m)), (3, .int (nI c)), (4, .int (nI k))] [] (h, n, 0, 0) (.inl (some (.int (oI (sMeant σ b m c)))), (· = h), some n) 0 0 := by
        intro d_56
        induction d_56 using Nat.strongRecOn with
        | _ d_56 ih_56 =>
        intro k hd_56 hk hf
        refine ev_iload dX5_meantByPeople_56 rfl ?_
        refine ev_aload_n dX5_meantByPeople_58 rfl rfl ?_
        refine ev_getfield dX5_meantByPeople_59 fl_X5_12 (by first | assumption | omega) rfl ?_
        refine ev_getfield dX5_meantByPeople_62 fl_X5_42 (by first | assumption | omega) rfl ?_
        first | ((with_reducible show eV _ _ _ (Value.int (nI _) :: Value.int (nI _) :: _) _ _ _ _); refine ev_icmp_geN (tgt := 103) dX5_meantByPeople_65 (by decide) (by first | exact hB _ _ | omega) (by first | exact hB _ _ | omega) (fun c_65 => ?_) (fun c_65 => ?_)) | ((with_reducible show eV _ _ _ (Value.int (nI _) :: _) _ _ _ _); refine ev_icmp_geZN (tgt := 103) dX5_meantByPeople_65 (by decide) (by first | exact hB _ _ | omega) (fun c_65 => ?_) (fun c_65 => ?_)) | ((with_reducible show eV _ _ _ (_ :: Value.int (nI _) :: _) _ _ _ _); refine ev_icmp_geNZ (tgt := 103) dX5_meantByPeople_65 (by decide) (by first | exact hB _ _ | omega) (fun c_65 => ?_) (fun c_65 => ?_)) | (refine ev_icmp_geZZ (tgt := 103) dX5_meantByPeople_65 (by decide) (fun c_65 => ?_) (fun c_65 => ?_))
        · refine ev_iconst (v := -1) dX5_meantByPeople_103 (by decide) ?_
          exact ev_iret dX5_meantByPeople_104 rfl rfl (by exact oRn (by have e : k = σ 0 0 := (by omega); rw [sMeant, hf0, ← e]; exact hf)) (by rfl) (fun _ e => Option.some.inj e) (Nat.le_of_ble_eq_true rfl) (Nat.le_of_ble_eq_true rfl)
        · refine ev_aload_n dX5_meantByPeople_68 rfl rfl ?_
          refine ev_getfield dX5_meantByPeople_69 fl_X5_12 (by first | assumption | omega) rfl ?_
          refine ev_getfield dX5_meantByPeople_72 fl_X5_63 (by first | assumption | omega) rfl ?_
          refine ev_iload dX5_meantByPeople_75 rfl ?_
          refine ev_ialoadA dX5_meantByPeople_77 (by first | assumption | omega) (by first | assumption | omega) ?_
          refine ev_iload_n dX5_meantByPeople_78 rfl rfl ?_
          first | ((with_reducible show eV _ _ _ (Value.int (nI _) :: Value.int (nI _) :: _) _ _ _ _); refine ev_icmp_neN (tgt := 97) dX5_meantByPeople_79 (by decide) (by first | exact hB _ _ | omega) (by first | exact hB _ _ | omega) (fun c_79 => ?_) (fun c_79 => ?_)) | ((with_reducible show eV _ _ _ (Value.int (-1) :: Value.int (oI _) :: _) _ _ _ _); refine ev_icmp_neO (tgt := 97) dX5_meantByPeople_79 (by decide) (by first | assumption | (intro k9 h9; exact absurd h9 (by simp)) | (intro k9 h9; have := (fst_lt h9).1; omega) | (intro k9 h9; cases h9; omega)) (fun c_79 => ?_) (fun c_79 => ?_)) | ((with_reducible show eV _ _ _ (Value.int (nI _) :: _) _ _ _ _); refine ev_icmp_neZN (tgt := 97) dX5_meantByPeople_79 (by decide) (by first | exact hB _ _ | omega) (fun c_79 => ?_) (fun c_79 => ?_)) | ((with_reducible show eV _ _ _ (_ :: Value.int (nI _) :: _) _ _ _ _); refine ev_icmp_neNZ (tgt := 97) dX5_meantByPeople_79 (by decide) (by first | exact hB _ _ | omega) (fun c_79 => ?_) (fun c_79 => ?_)) | (refine ev_icmp_neZZ (tgt := 97) dX5_meantByPeople_79 (by decide) (fun c_79 => ?_) (fun c_79 => ?_))
          · first | refine ev_iincN dX5_meantByPeople_97 rfl (Nat.le_of_ble_eq_true rfl) ?_ | refine ev_iinc dX5_meantByPeople_97 rfl rfl (Nat.le_of_ble_eq_true rfl) ?_
            refine ev_goto (tgt := 56) dX5_meantByPeople_100 (by decide) ?_
            exact (ih_56 _ (by omega) _  rfl (by first | omega | assumption | rfl) (by exact fst_s hf (by first | (simp [c_91]; done) | (simp [c_79]; done)))).sub1 ⟨rfl, rfl, rfl, rfl, rfl, trivial⟩ rfl
          · refine ev_aload_n dX5_meantByPeople_82 rfl rfl ?_
            refine ev_iload dX5_meantByPeople_83 rfl ?_
            refine ev_iload_n dX5_meantByPeople_85 rfl rfl ?_
            refine ev_iload_n dX5_meantByPeople_86 rfl rfl ?_
            refine ev_callVi dX5_meantByPeople_87 (c_X5_firstBrotherNamed (by first | assumption | omega) (by first | assumption | omega) (by first | assumption | omega) (by first | assumption | omega) (by first | assumption | omega)) rfl lk_X5_103 (by first | assumption | omega) ⟨Nat.le_of_ble_eq_true rfl, Nat.le_of_ble_eq_true rfl⟩ rfl (Nat.le_of_ble_eq_true rfl) ⟨Nat.le_of_ble_eq_true rfl, Nat.le_of_ble_eq_true rfl⟩ (eRo ?_)
            refine ev_iconst (v := -1) dX5_meantByPeople_90 (by decide) ?_
            first | ((with_reducible show eV _ _ _ (Value.int (nI _) :: Value.int (nI _) :: _) _ _ _ _); refine ev_icmp_eqN (tgt := 97) dX5_meantByPeople_91 (by decide) (by first | exact hB _ _ | omega) (by first | exact hB _ _ | omega) (fun c_91 => ?_) (fun c_91 => ?_)) | ((with_reducible show eV _ _ _ (Value.int (-1) :: Value.int (oI _) :: _) _ _ _ _); refine ev_icmp_eqO (tgt := 97) dX5_meantByPeople_91 (by decide) (by first | assumption | (intro k9 h9; exact absurd h9 (by simp)) | (intro k9 h9; have := (fst_lt h9).1; omega) | (intro k9 h9; cases h9; omega)) (fun c_91 => ?_) (fun c_91 => ?_)) | ((with_reducible show eV _ _ _ (Value.int (oI _) :: Value.int (nI _) :: _) _ _ _ _); refine ev_icmp_eqNO (tgt := 97) dX5_meantByPeople_91 (by decide) (by first | exact hB _ _ | omega) (by first | assumption | (intro k9 h9; exact absurd h9 (by simp)) | (intro k9 h9; have := (fst_lt h9).1; omega) | (intro k9 h9; cases h9; omega)) (fun c_91 => ?_) (fun c_91 => ?_)) | ((with_reducible show eV _ _ _ (Value.int (nI _) :: _) _ _ _ _); refine ev_icmp_eqZN (tgt := 97) dX5_meantByPeople_91 (by decide) (by first | exact hB _ _ | omega) (fun c_91 => ?_) (fun c_91 => ?_)) | ((with_reducible show eV _ _ _ (_ :: Value.int (nI _) :: _) _ _ _ _); refine ev_icmp_eqNZ (tgt := 97) dX5_meantByPeople_91 (by decide) (by first | exact hB _ _ | omega) (fun c_91 => ?_) (fun c_91 => ?_)) | (refine ev_icmp_eqZZ (tgt := 97) dX5_meantByPeople_91 (by decide) (fun c_91 => ?_) (fun c_91 => ?_))
            · first | refine ev_iincN dX5_meantByPeople_97 rfl (Nat.le_of_ble_eq_true rfl) ?_ | refine ev_iinc dX5_meantByPeople_97 rfl rfl (Nat.le_of_ble_eq_true rfl) ?_
              refine ev_goto (tgt := 56) dX5_meantByPeople_100 (by decide) ?_
              exact (ih_56 _ (by omega) _  rfl (by first | omega | assumption | rfl) (by exact fst_s hf (by first | (simp [c_91]; done) | (simp [c_79]; done)))).sub1 ⟨rfl, rfl, rfl, rfl, rfl, trivial⟩ rfl
            · refine ev_iload dX5_meantByPeople_94 rfl ?_
              exact ev_iret dX5_meantByPeople_96 rfl rfl (by exact oR (by rw [sMeant, hf0]; exact fst_up hf (by simp [c_79, Option.isSome_iff_ne_none, c_91]; done) (by omega))) (by rfl) (fun _ e => Option.some.inj e) (Nat.le_of_ble_eq_true rfl) (Nat.le_of_ble_eq_true rfl)
      exact (H_56 _ 0 rfl (by first | omega | assumption | rfl) (by first | omega | assumption | rfl)).sub1 ⟨rfl, rfl, rfl, rfl, rfl, trivial⟩ rfl
    · refine ev_aload_n dX5_meantByPeople_15 rfl rfl ?_
      refine ev_getfield dX5_meantByPeople_16 fl_X5_12 (by first | assumption | omega) rfl ?_
      refine ev_getfield dX5_meantByPeople_19 fl_X5_63 (by first | assumption | omega) rfl ?_
      refine ev_iload dX5_meantByPeople_22 rfl ?_
      refine ev_ialoadA dX5_meantByPeople_24 (by first | assumption | omega) (by first | assumption | omega) ?_
      refine ev_iload_n dX5_meantByPeople_25 rfl rfl ?_
      first | ((with_reducible show eV _ _ _ (Value.int (nI _) :: Value.int (nI _) :: _) _ _ _ _); refine ev_icmp_neN (tgt := 47) dX5_meantByPeople_26 (by decide) (by first | exact hB _ _ | omega) (by first | exact hB _ _ | omega) (fun c_26 => ?_) (fun c_26 => ?_)) | ((with_reducible show eV _ _ _ (Value.int (-1) :: Value.int (oI _) :: _) _ _ _ _); refine ev_icmp_neO (tgt := 47) dX5_meantByPeople_26 (by decide) (by first | assumption | (intro k9 h9; exact absurd h9 (by simp)) | (intro k9 h9; have := (fst_lt h9).1; omega) | (intro k9 h9; cases h9; omega)) (fun c_26 => ?_) (fun c_26 => ?_)) | ((with_reducible show eV _ _ _ (Value.int (nI _) :: _) _ _ _ _); refine ev_icmp_neZN (tgt := 47) dX5_meantByPeople_26 (by decide) (by first | exact hB _ _ | omega) (fun c_26 => ?_) (fun c_26 => ?_)) | ((with_reducible show eV _ _ _ (_ :: Value.int (nI _) :: _) _ _ _ _); refine ev_icmp_neNZ (tgt := 47) dX5_meantByPeople_26 (by decide) (by first | exact hB _ _ | omega) (fun c_26 => ?_) (fun c_26 => ?_)) | (refine ev_icmp_neZZ (tgt := 47) dX5_meantByPeople_26 (by decide) (fun c_26 => ?_) (fun c_26 => ?_))
      · first | refine ev_iincN dX5_meantByPeople_47 rfl (Nat.le_of_ble_eq_true rfl) ?_ | refine ev_iinc dX5_meantByPeople_47 rfl rfl (Nat.le_of_ble_eq_true rfl) ?_
        refine ev_goto (tgt := 3) dX5_meantByPeople_50 (by decide) ?_
        exact (ih_3 _ (by omega) _  rfl (by first | omega | assumption | rfl) (by exact fst_s hf (by first | (simp [c_41]; done) | (simp [c_26]; done)))).sub1 ⟨rfl, rfl, rfl, rfl, rfl, trivial⟩ rfl
      · refine ev_aload_n dX5_meantByPeople_29 rfl rfl ?_
        refine ev_getfield dX5_meantByPeople_30 fl_X5_21 (by first | assumption | omega) rfl ?_
        refine ev_iload dX5_meantByPeople_33 rfl ?_
        refine ev_iload_n dX5_meantByPeople_35 rfl rfl ?_
        refine ev_iload_n dX5_meantByPeople_36 rfl rfl ?_
        refine ev_callVi dX5_meantByPeople_37 (c_X2_aliveNameOf (by first | assumption | omega) (by first | assumption | omega) (by first | assumption | omega) (by first | assumption | omega) (by first | assumption | omega)) rfl lk_X5_99 (by first | assumption | omega) ⟨Nat.le_of_ble_eq_true rfl, Nat.le_of_ble_eq_true rfl⟩ rfl (Nat.le_of_ble_eq_true rfl) ⟨Nat.le_of_ble_eq_true rfl, Nat.le_of_ble_eq_true rfl⟩ (eRo ?_)
        refine ev_iconst (v := -1) dX5_meantByPeople_40 (by decide) ?_
        first | ((with_reducible show eV _ _ _ (Value.int (nI _) :: Value.int (nI _) :: _) _ _ _ _); refine ev_icmp_eqN (tgt := 47) dX5_meantByPeople_41 (by decide) (by first | exact hB _ _ | omega) (by first | exact hB _ _ | omega) (fun c_41 => ?_) (fun c_41 => ?_)) | ((with_reducible show eV _ _ _ (Value.int (-1) :: Value.int (oI _) :: _) _ _ _ _); refine ev_icmp_eqO (tgt := 47) dX5_meantByPeople_41 (by decide) (by first | assumption | (intro k9 h9; exact absurd h9 (by simp)) | (intro k9 h9; have := (fst_lt h9).1; omega) | (intro k9 h9; cases h9; omega)) (fun c_41 => ?_) (fun c_41 => ?_)) | ((with_reducible show eV _ _ _ (Value.int (oI _) :: Value.int (nI _) :: _) _ _ _ _); refine ev_icmp_eqNO (tgt := 47) dX5_meantByPeople_41 (by decide) (by first | exact hB _ _ | omega) (by first | assumption | (intro k9 h9; exact absurd h9 (by simp)) | (intro k9 h9; have := (fst_lt h9).1; omega) | (intro k9 h9; cases h9; omega)) (fun c_41 => ?_) (fun c_41 => ?_)) | ((with_reducible show eV _ _ _ (Value.int (nI _) :: _) _ _ _ _); refine ev_icmp_eqZN (tgt := 47) dX5_meantByPeople_41 (by decide) (by first | exact hB _ _ | omega) (fun c_41 => ?_) (fun c_41 => ?_)) | ((with_reducible show eV _ _ _ (_ :: Value.int (nI _) :: _) _ _ _ _); refine ev_icmp_eqNZ (tgt := 47) dX5_meantByPeople_41 (by decide) (by first | exact hB _ _ | omega) (fun c_41 => ?_) (fun c_41 => ?_)) | (refine ev_icmp_eqZZ (tgt := 47) dX5_meantByPeople_41 (by decide) (fun c_41 => ?_) (fun c_41 => ?_))
        · first | refine ev_iincN dX5_meantByPeople_47 rfl (Nat.le_of_ble_eq_true rfl) ?_ | refine ev_iinc dX5_meantByPeople_47 rfl rfl (Nat.le_of_ble_eq_true rfl) ?_
          refine ev_goto (tgt := 3) dX5_meantByPeople_50 (by decide) ?_
          exact (ih_3 _ (by omega) _  rfl (by first | omega | assumption | rfl) (by exact fst_s hf (by first | (simp [c_41]; done) | (simp [c_26]; done)))).sub1 ⟨rfl, rfl, rfl, rfl, rfl, trivial⟩ rfl
        · refine ev_iload dX5_meantByPeople_44 rfl ?_
          exact ev_iret dX5_meantByPeople_46 rfl rfl (by exact oR (by rw [sMeant, fst_up hf (by simp [c_26, Option.isSome_iff_ne_none, c_41]; done) (by omega)])) (by rfl) (fun _ e => Option.some.inj e) (Nat.le_of_ble_eq_true rfl) (Nat.le_of_ble_eq_true rfl)
  exact (H_3 _ 0 rfl (by first | omega | assumption | rfl) (by first | omega | assumption | rfl)).sub1 ⟨rfl, rfl, rfl, rfl, rfl, trivial⟩ rfl
set_option maxHeartbeats 4000000 in
set_option maxRecDepth 20000 in
theorem c_X5_oldestFor {h : eH} {n r : Nat} {σ : St} (hR : eRg h r σ) (hO : eOK σ) {k : Nat} (hk : k < σ 0 1) : kX5_oldestFor [.ref r, .int (nI k)] h n (.inl (some (.int (nI (4 * σ 14 2 * σ 6 k)))), (· = h), some n) 0 0 := by
  refine eM.of RX5 "oldestFor" [(0, .ref r), (1, .int (nI k))] pn_X5 rfl rfl (Nat.le_of_ble_eq_true rfl) rfl ?_
  obtain ⟨r0, hP, hN, hS⟩ := id hR
  obtain ⟨n0, n1, n2, n3, n4, n5, n6, n7, n8, n9⟩ := id hN
  refine ev_iconst (v := nI 4) dX5_oldestFor_0 rfl ?_
  refine ev_aload_n dX5_oldestFor_1 rfl rfl ?_
  refine ev_getfield dX5_oldestFor_2 fl_X5_25 (by first | assumption | omega) rfl ?_
  refine ev_iconst (v := nI 2) dX5_oldestFor_5 rfl ?_
  refine ev_ialoadA dX5_oldestFor_6 (by first | assumption | omega) (by first | assumption | omega) ?_
  first | refine ev_imulN dX5_oldestFor_7 ?_ | refine ev_imul dX5_oldestFor_7 ?_
  refine ev_aload_n dX5_oldestFor_8 rfl rfl ?_
  refine ev_getfield dX5_oldestFor_9 fl_X5_21 (by first | assumption | omega) rfl ?_
  refine ev_getfield dX5_oldestFor_12 fl_X5_93 (by first | assumption | omega) rfl ?_
  refine ev_iload_n dX5_oldestFor_15 rfl rfl ?_
  refine ev_ialoadA dX5_oldestFor_16 (by first | assumption | omega) (by first | assumption | omega) ?_
  first | refine ev_imulN dX5_oldestFor_17 ?_ | refine ev_imul dX5_oldestFor_17 ?_
  exact ev_iret dX5_oldestFor_18 rfl rfl (by rfl) (by rfl) (fun _ e => Option.some.inj e) (Nat.le_of_ble_eq_true rfl) (Nat.le_of_ble_eq_true rfl)
set_option maxHeartbeats 4000000 in
set_option maxRecDepth 20000 in
theorem c_X5_heirOf {h : eH} {n r : Nat} {σ : St} (hR : eRg h r σ) (hO : eOK σ) {p : Nat} (hp : p < σ 0 0) : kX5_heirOf [.ref r, .int (nI p)] h n (.inl (some (.int (oI (sHeir σ p)))), (· = h), some n) 0 0 := by
  refine eM.of RX5 "heirOf" [(0, .ref r), (1, .int (nI p))] pn_X5 rfl rfl (Nat.le_of_ble_eq_true rfl) rfl ?_
  have hB : eB σ := hO.1
  have hz := hO.2.1
  have hz2 := hO.2.2.1
  have hlv := hO.lives
  obtain ⟨r0, hP, hN, hS⟩ := id hR
  obtain ⟨p0, p1, p2, p3, p4, p5⟩ := id hP
  obtain ⟨n0, n1, n2, n3, n4, n5, n6, n7, n8, n9⟩ := id hN
  refine ev_iconst (v := -1) dX5_heirOf_0 (by decide) ?_
  refine ev_istore_n dX5_heirOf_1 rfl (Nat.le_of_ble_eq_true rfl) ?_
  refine ev_iconst (v := nI 0) dX5_heirOf_2 rfl ?_
  refine ev_istore_n dX5_heirOf_3 rfl (Nat.le_of_ble_eq_true rfl) ?_
  have H_4 : ∀ (d_4 : Nat) (k : Nat) (o : Option Nat), d_4 = σ 0 0 - k → (k ≤ σ 0 0) → (o = sHeirTo σ p k) → eV mX5_heirOf 4 [(0, .ref r), (1, .int (nI p)), (2, .int (oI o)), (3, .int (nI k))] [] (h, n, 0, 0) (.inl (some (.int (oI (sHeir σ p)))), (· = h), some n) 0 0 := by
    intro d_4
    induction d_4 using Nat.strongRecOn with
    | _ d_4 ih_4 =>
    intro k o hd_4 hk ho
    refine ev_iload_n dX5_heirOf_4 rfl rfl ?_
    refine ev_aload_n dX5_heirOf_5 rfl rfl ?_
    refine ev_getfield dX5_heirOf_6 fl_X5_12 (by first | assumption | omega) rfl ?_
    refine ev_getfield dX5_heirOf_9 fl_X5_42 (by first | assumption | omega) rfl ?_
    first | ((with_reducible show eV _ _ _ (Value.int (nI _) :: Value.int (nI _) :: _) _ _ _ _); refine ev_icmp_geN (tgt := 85) dX5_heirOf_12 (by decide) (by first | exact hB _ _ | omega | exact Nat.lt_of_le_of_lt (hlv _) (by decide)) (by first | exact hB _ _ | omega | exact Nat.lt_of_le_of_lt (hlv _) (by decide)) (fun c_12 => ?_) (fun c_12 => ?_)) | ((with_reducible show eV _ _ _ (Value.int (nI _) :: _) _ _ _ _); refine ev_icmp_geZN (tgt := 85) dX5_heirOf_12 (by decide) (by first | exact hB _ _ | omega | exact Nat.lt_of_le_of_lt (hlv _) (by decide)) (fun c_12 => ?_) (fun c_12 => ?_)) | ((with_reducible show eV _ _ _ (_ :: Value.int (nI _) :: _) _ _ _ _); refine ev_icmp_geNZ (tgt := 85) dX5_heirOf_12 (by decide) (by first | exact hB _ _ | omega | exact Nat.lt_of_le_of_lt (hlv _) (by decide)) (fun c_12 => ?_) (fun c_12 => ?_)) | (refine ev_icmp_geZZ (tgt := 85) dX5_heirOf_12 (by decide) (fun c_12 => ?_) (fun c_12 => ?_))
    · refine ev_iload_n dX5_heirOf_85 rfl rfl ?_
      exact ev_iret dX5_heirOf_86 rfl rfl (by first | exact congrArg (fun o => Sum.inl (some (Value.int (oI o)))) (by have e : k = σ 0 0 := (by omega); rw [sHeir, ho, ← e])) (by rfl) (fun _ e => Option.some.inj e) (Nat.le_of_ble_eq_true rfl) (Nat.le_of_ble_eq_true rfl)
    · refine ev_iload_n dX5_heirOf_15 rfl rfl ?_
      refine ev_iconst (v := -1) dX5_heirOf_16 (by decide) ?_
      first | ((with_reducible show eV _ _ _ (Value.int (nI _) :: Value.int (nI _) :: _) _ _ _ _); refine ev_icmp_eqN (tgt := 41) dX5_heirOf_17 (by decide) (by first | exact hB _ _ | omega | exact Nat.lt_of_le_of_lt (hlv _) (by decide)) (by first | exact hB _ _ | omega | exact Nat.lt_of_le_of_lt (hlv _) (by decide)) (fun c_17 => ?_) (fun c_17 => ?_)) | ((with_reducible show eV _ _ _ (Value.int (-1) :: Value.int (oI _) :: _) _ _ _ _); refine ev_icmp_eqO (tgt := 41) dX5_heirOf_17 (by decide) (by first | assumption | (intro k9 h9; have := sHeirTo_lt (ho ▸ h9); omega)) (fun c_17 => ?_) (fun c_17 => ?_)) | ((with_reducible show eV _ _ _ (Value.int (oI _) :: Value.int (nI _) :: _) _ _ _ _); refine ev_icmp_eqNO (tgt := 41) dX5_heirOf_17 (by decide) (by first | exact hB _ _ | omega | exact Nat.lt_of_le_of_lt (hlv _) (by decide)) (by first | assumption | (intro k9 h9; have := sHeirTo_lt (ho ▸ h9); omega)) (fun c_17 => ?_) (fun c_17 => ?_)) | ((with_reducible show eV _ _ _ (Value.int (nI _) :: _) _ _ _ _); refine ev_icmp_eqZN (tgt := 41) dX5_heirOf_17 (by decide) (by first | exact hB _ _ | omega | exact Nat.lt_of_le_of_lt (hlv _) (by decide)) (fun c_17 => ?_) (fun c_17 => ?_)) | ((with_reducible show eV _ _ _ (_ :: Value.int (nI _) :: _) _ _ _ _); refine ev_icmp_eqNZ (tgt := 41) dX5_heirOf_17 (by decide) (by first | exact hB _ _ | omega | exact Nat.lt_of_le_of_lt (hlv _) (by decide)) (fun c_17 => ?_) (fun c_17 => ?_)) | (refine ev_icmp_eqZZ (tgt := 41) dX5_heirOf_17 (by decide) (fun c_17 => ?_) (fun c_17 => ?_))
      · try subst c_17
        refine ev_iconst (v := nI 1) dX5_heirOf_41 rfl ?_
        refine ev_goto (tgt := 46) dX5_heirOf_42 (by decide) ?_
        refine ev_istore dX5_heirOf_46 (Nat.le_of_ble_eq_true rfl) ?_
        refine ev_iload dX5_heirOf_48 rfl ?_
        first | ((with_reducible show eV _ _ _ (Value.int (bI _) :: _) _ _ _ _); refine ev_if_eqB (tgt := 79) dX5_heirOf_50 (by decide) (fun c_50 => ?_) (fun c_50 => ?_)) | ((with_reducible show eV _ _ _ (Value.int (nI _) :: _) _ _ _ _); refine ev_if_eqN (tgt := 79) dX5_heirOf_50 (by decide) (by first | exact hB _ _ | omega | exact Nat.lt_of_le_of_lt (hlv _) (by decide)) (fun c_50 => ?_) (fun c_50 => ?_)) | (refine ev_if_eqZ (tgt := 79) dX5_heirOf_50 (by decide) (fun c_50 => ?_) (fun c_50 => ?_))
        · first | refine ev_iincN dX5_heirOf_79 rfl (Nat.le_of_ble_eq_true rfl) ?_ | refine ev_iinc dX5_heirOf_79 rfl rfl (Nat.le_of_ble_eq_true rfl) ?_
          refine ev_goto (tgt := 4) dX5_heirOf_82 (by decide) ?_
          first | (exact (ih_4 _ (by omega) (k + 1) (some k) rfl (by first | omega | assumption | rfl) (by first | omega | (rw [sHeirTo, ← ho, if_neg (by unfold sHeirC; first | (rw [show sYounger σ k p = false from c_62]; simp; done) | (simp only [Bool.and_eq_true, decide_eq_true_eq]; intro q; first | exact absurd q.2.2 (by omega) | exact absurd q.1 (by omega)))]; done) | (rw [sHeirTo, ← ho, if_pos (by unfold sHeirC; rw [show sYounger σ k p = true from c_62]; simp only [Bool.true_and, Bool.and_eq_true, decide_eq_true_eq]; omega)]; done))).sub1 ⟨rfl, rfl, rfl, rfl, trivial⟩ rfl) | (exact (ih_4 _ (by omega) (k + 1) none rfl (by first | omega | assumption | rfl) (by first | omega | (rw [sHeirTo, ← ho, if_neg (by unfold sHeirC; first | (rw [show sYounger σ k p = false from c_62]; simp; done) | (simp only [Bool.and_eq_true, decide_eq_true_eq]; intro q; first | exact absurd q.2.2 (by omega) | exact absurd q.1 (by omega)))]; done) | (rw [sHeirTo, ← ho, if_pos (by unfold sHeirC; rw [show sYounger σ k p = true from c_62]; simp only [Bool.true_and, Bool.and_eq_true, decide_eq_true_eq]; omega)]; done))).sub1 ⟨rfl, rfl, rfl, rfl, trivial⟩ rfl) | (exact (ih_4 _ (by omega) (k + 1) (some e) rfl (by first | omega | assumption | rfl) (by first | omega | (rw [sHeirTo, ← ho, if_neg (by unfold sHeirC; first | (rw [show sYounger σ k p = false from c_62]; simp; done) | (simp only [Bool.and_eq_true, decide_eq_true_eq]; intro q; first | exact absurd q.2.2 (by omega) | exact absurd q.1 (by omega)))]; done) | (rw [sHeirTo, ← ho, if_pos (by unfold sHeirC; rw [show sYounger σ k p = true from c_62]; simp only [Bool.true_and, Bool.and_eq_true, decide_eq_true_eq]; omega)]; done))).sub1 ⟨rfl, rfl, rfl, rfl, trivial⟩ rfl)
        · refine ev_aload_n dX5_heirOf_53 rfl rfl ?_
          refine ev_getfield dX5_heirOf_54 fl_X5_12 (by first | assumption | omega) rfl ?_
          refine ev_iload_n dX5_heirOf_57 rfl rfl ?_
          refine ev_iload_n dX5_heirOf_58 rfl rfl ?_
          refine ev_callVi dX5_heirOf_59 (c_X4_isYoungerBeside (by first | assumption | omega) (by first | assumption | omega) (by first | assumption | omega) (by first | assumption | omega)) rfl lk_X5_170 (by first | assumption | omega) ⟨Nat.le_of_ble_eq_true rfl, Nat.le_of_ble_eq_true rfl⟩ rfl (Nat.le_of_ble_eq_true rfl) ⟨Nat.le_of_ble_eq_true rfl, Nat.le_of_ble_eq_true rfl⟩ (eRo ?_)
          first | ((with_reducible show eV _ _ _ (Value.int (bI _) :: _) _ _ _ _); refine ev_if_eqB (tgt := 79) dX5_heirOf_62 (by decide) (fun c_62 => ?_) (fun c_62 => ?_)) | ((with_reducible show eV _ _ _ (Value.int (nI _) :: _) _ _ _ _); refine ev_if_eqN (tgt := 79) dX5_heirOf_62 (by decide) (by first | exact hB _ _ | omega | exact Nat.lt_of_le_of_lt (hlv _) (by decide)) (fun c_62 => ?_) (fun c_62 => ?_)) | (refine ev_if_eqZ (tgt := 79) dX5_heirOf_62 (by decide) (fun c_62 => ?_) (fun c_62 => ?_))
          · first | refine ev_iincN dX5_heirOf_79 rfl (Nat.le_of_ble_eq_true rfl) ?_ | refine ev_iinc dX5_heirOf_79 rfl rfl (Nat.le_of_ble_eq_true rfl) ?_
            refine ev_goto (tgt := 4) dX5_heirOf_82 (by decide) ?_
            first | (exact (ih_4 _ (by omega) (k + 1) (some k) rfl (by first | omega | assumption | rfl) (by first | omega | (rw [sHeirTo, ← ho, if_neg (by unfold sHeirC; first | (rw [show sYounger σ k p = false from c_62]; simp; done) | (simp only [Bool.and_eq_true, decide_eq_true_eq]; intro q; first | exact absurd q.2.2 (by omega) | exact absurd q.1 (by omega)))]; done) | (rw [sHeirTo, ← ho, if_pos (by unfold sHeirC; rw [show sYounger σ k p = true from c_62]; simp only [Bool.true_and, Bool.and_eq_true, decide_eq_true_eq]; omega)]; done))).sub1 ⟨rfl, rfl, rfl, rfl, trivial⟩ rfl) | (exact (ih_4 _ (by omega) (k + 1) none rfl (by first | omega | assumption | rfl) (by first | omega | (rw [sHeirTo, ← ho, if_neg (by unfold sHeirC; first | (rw [show sYounger σ k p = false from c_62]; simp; done) | (simp only [Bool.and_eq_true, decide_eq_true_eq]; intro q; first | exact absurd q.2.2 (by omega) | exact absurd q.1 (by omega)))]; done) | (rw [sHeirTo, ← ho, if_pos (by unfold sHeirC; rw [show sYounger σ k p = true from c_62]; simp only [Bool.true_and, Bool.and_eq_true, decide_eq_true_eq]; omega)]; done))).sub1 ⟨rfl, rfl, rfl, rfl, trivial⟩ rfl) | (exact (ih_4 _ (by omega) (k + 1) (some e) rfl (by first | omega | assumption | rfl) (by first | omega | (rw [sHeirTo, ← ho, if_neg (by unfold sHeirC; first | (rw [show sYounger σ k p = false from c_62]; simp; done) | (simp only [Bool.and_eq_true, decide_eq_true_eq]; intro q; first | exact absurd q.2.2 (by omega) | exact absurd q.1 (by omega)))]; done) | (rw [sHeirTo, ← ho, if_pos (by unfold sHeirC; rw [show sYounger σ k p = true from c_62]; simp only [Bool.true_and, Bool.and_eq_true, decide_eq_true_eq]; omega)]; done))).sub1 ⟨rfl, rfl, rfl, rfl, trivial⟩ rfl)
          · refine ev_aload_n dX5_heirOf_65 rfl rfl ?_
            refine ev_getfield dX5_heirOf_66 fl_X5_21 (by first | assumption | omega) rfl ?_
            refine ev_iload_n dX5_heirOf_69 rfl rfl ?_
            refine ev_callVi dX5_heirOf_70 (c_X2_aliveOf (by first | assumption | omega) (by first | assumption | omega) (by first | assumption | omega)) rfl lk_X5_78 (by first | assumption | omega) ⟨Nat.le_of_ble_eq_true rfl, Nat.le_of_ble_eq_true rfl⟩ rfl (Nat.le_of_ble_eq_true rfl) ⟨Nat.le_of_ble_eq_true rfl, Nat.le_of_ble_eq_true rfl⟩ (eRo ?_)
            refine ev_iconst (v := nI 3) dX5_heirOf_73 rfl ?_
            first | ((with_reducible show eV _ _ _ (Value.int (nI _) :: Value.int (nI _) :: _) _ _ _ _); refine ev_icmp_geN (tgt := 79) dX5_heirOf_74 (by decide) (by first | exact hB _ _ | omega | exact Nat.lt_of_le_of_lt (hlv _) (by decide)) (by first | exact hB _ _ | omega | exact Nat.lt_of_le_of_lt (hlv _) (by decide)) (fun c_74 => ?_) (fun c_74 => ?_)) | ((with_reducible show eV _ _ _ (Value.int (nI _) :: _) _ _ _ _); refine ev_icmp_geZN (tgt := 79) dX5_heirOf_74 (by decide) (by first | exact hB _ _ | omega | exact Nat.lt_of_le_of_lt (hlv _) (by decide)) (fun c_74 => ?_) (fun c_74 => ?_)) | ((with_reducible show eV _ _ _ (_ :: Value.int (nI _) :: _) _ _ _ _); refine ev_icmp_geNZ (tgt := 79) dX5_heirOf_74 (by decide) (by first | exact hB _ _ | omega | exact Nat.lt_of_le_of_lt (hlv _) (by decide)) (fun c_74 => ?_) (fun c_74 => ?_)) | (refine ev_icmp_geZZ (tgt := 79) dX5_heirOf_74 (by decide) (fun c_74 => ?_) (fun c_74 => ?_))
            · first | refine ev_iincN dX5_heirOf_79 rfl (Nat.le_of_ble_eq_true rfl) ?_ | refine ev_iinc dX5_heirOf_79 rfl rfl (Nat.le_of_ble_eq_true rfl) ?_
              refine ev_goto (tgt := 4) dX5_heirOf_82 (by decide) ?_
              first | (exact (ih_4 _ (by omega) (k + 1) (some k) rfl (by first | omega | assumption | rfl) (by first | omega | (rw [sHeirTo, ← ho, if_neg (by unfold sHeirC; first | (rw [show sYounger σ k p = false from c_62]; simp; done) | (simp only [Bool.and_eq_true, decide_eq_true_eq]; intro q; first | exact absurd q.2.2 (by omega) | exact absurd q.1 (by omega)))]; done) | (rw [sHeirTo, ← ho, if_pos (by unfold sHeirC; rw [show sYounger σ k p = true from c_62]; simp only [Bool.true_and, Bool.and_eq_true, decide_eq_true_eq]; omega)]; done))).sub1 ⟨rfl, rfl, rfl, rfl, trivial⟩ rfl) | (exact (ih_4 _ (by omega) (k + 1) none rfl (by first | omega | assumption | rfl) (by first | omega | (rw [sHeirTo, ← ho, if_neg (by unfold sHeirC; first | (rw [show sYounger σ k p = false from c_62]; simp; done) | (simp only [Bool.and_eq_true, decide_eq_true_eq]; intro q; first | exact absurd q.2.2 (by omega) | exact absurd q.1 (by omega)))]; done) | (rw [sHeirTo, ← ho, if_pos (by unfold sHeirC; rw [show sYounger σ k p = true from c_62]; simp only [Bool.true_and, Bool.and_eq_true, decide_eq_true_eq]; omega)]; done))).sub1 ⟨rfl, rfl, rfl, rfl, trivial⟩ rfl) | (exact (ih_4 _ (by omega) (k + 1) (some e) rfl (by first | omega | assumption | rfl) (by first | omega | (rw [sHeirTo, ← ho, if_neg (by unfold sHeirC; first | (rw [show sYounger σ k p = false from c_62]; simp; done) | (simp only [Bool.and_eq_true, decide_eq_true_eq]; intro q; first | exact absurd q.2.2 (by omega) | exact absurd q.1 (by omega)))]; done) | (rw [sHeirTo, ← ho, if_pos (by unfold sHeirC; rw [show sYounger σ k p = true from c_62]; simp only [Bool.true_and, Bool.and_eq_true, decide_eq_true_eq]; omega)]; done))).sub1 ⟨rfl, rfl, rfl, rfl, trivial⟩ rfl)
            · refine ev_iload_n dX5_heirOf_77 rfl rfl ?_
              refine ev_istore_n dX5_heirOf_78 rfl (Nat.le_of_ble_eq_true rfl) ?_
              first | refine ev_iincN dX5_heirOf_79 rfl (Nat.le_of_ble_eq_true rfl) ?_ | refine ev_iinc dX5_heirOf_79 rfl rfl (Nat.le_of_ble_eq_true rfl) ?_
              refine ev_goto (tgt := 4) dX5_heirOf_82 (by decide) ?_
              first | (exact (ih_4 _ (by omega) (k + 1) (some k) rfl (by first | omega | assumption | rfl) (by first | omega | (rw [sHeirTo, ← ho, if_neg (by unfold sHeirC; first | (rw [show sYounger σ k p = false from c_62]; simp; done) | (simp only [Bool.and_eq_true, decide_eq_true_eq]; intro q; first | exact absurd q.2.2 (by omega) | exact absurd q.1 (by omega)))]; done) | (rw [sHeirTo, ← ho, if_pos (by unfold sHeirC; rw [show sYounger σ k p = true from c_62]; simp only [Bool.true_and, Bool.and_eq_true, decide_eq_true_eq]; omega)]; done))).sub1 ⟨rfl, rfl, rfl, rfl, trivial⟩ rfl) | (exact (ih_4 _ (by omega) (k + 1) none rfl (by first | omega | assumption | rfl) (by first | omega | (rw [sHeirTo, ← ho, if_neg (by unfold sHeirC; first | (rw [show sYounger σ k p = false from c_62]; simp; done) | (simp only [Bool.and_eq_true, decide_eq_true_eq]; intro q; first | exact absurd q.2.2 (by omega) | exact absurd q.1 (by omega)))]; done) | (rw [sHeirTo, ← ho, if_pos (by unfold sHeirC; rw [show sYounger σ k p = true from c_62]; simp only [Bool.true_and, Bool.and_eq_true, decide_eq_true_eq]; omega)]; done))).sub1 ⟨rfl, rfl, rfl, rfl, trivial⟩ rfl) | (exact (ih_4 _ (by omega) (k + 1) (some e) rfl (by first | omega | assumption | rfl) (by first | omega | (rw [sHeirTo, ← ho, if_neg (by unfold sHeirC; first | (rw [show sYounger σ k p = false from c_62]; simp; done) | (simp only [Bool.and_eq_true, decide_eq_true_eq]; intro q; first | exact absurd q.2.2 (by omega) | exact absurd q.1 (by omega)))]; done) | (rw [sHeirTo, ← ho, if_pos (by unfold sHeirC; rw [show sYounger σ k p = true from c_62]; simp only [Bool.true_and, Bool.and_eq_true, decide_eq_true_eq]; omega)]; done))).sub1 ⟨rfl, rfl, rfl, rfl, trivial⟩ rfl)
      · try subst c_17
        obtain ⟨e, rfl⟩ := Option.ne_none_iff_exists'.mp c_17
        rw [show oI (some e) = nI e from rfl]
        have hek := sHeirTo_lt ho.symm
        refine ev_aload_n dX5_heirOf_20 rfl rfl ?_
        refine ev_getfield dX5_heirOf_21 fl_X5_12 (by first | assumption | omega) rfl ?_
        refine ev_getfield dX5_heirOf_24 fl_X5_153 (by first | assumption | omega) rfl ?_
        refine ev_iload_n dX5_heirOf_27 rfl rfl ?_
        refine ev_ialoadA dX5_heirOf_28 (by first | assumption | omega) (by first | assumption | omega) ?_
        refine ev_aload_n dX5_heirOf_29 rfl rfl ?_
        refine ev_getfield dX5_heirOf_30 fl_X5_12 (by first | assumption | omega) rfl ?_
        refine ev_getfield dX5_heirOf_33 fl_X5_153 (by first | assumption | omega) rfl ?_
        refine ev_iload_n dX5_heirOf_36 rfl rfl ?_
        refine ev_ialoadA dX5_heirOf_37 (by first | assumption | omega) (by first | assumption | omega) ?_
        first | ((with_reducible show eV _ _ _ (Value.int (nI _) :: Value.int (nI _) :: _) _ _ _ _); refine ev_icmp_leN (tgt := 45) dX5_heirOf_38 (by decide) (by first | exact hB _ _ | omega | exact Nat.lt_of_le_of_lt (hlv _) (by decide)) (by first | exact hB _ _ | omega | exact Nat.lt_of_le_of_lt (hlv _) (by decide)) (fun c_38 => ?_) (fun c_38 => ?_)) | ((with_reducible show eV _ _ _ (Value.int (nI _) :: _) _ _ _ _); refine ev_icmp_leZN (tgt := 45) dX5_heirOf_38 (by decide) (by first | exact hB _ _ | omega | exact Nat.lt_of_le_of_lt (hlv _) (by decide)) (fun c_38 => ?_) (fun c_38 => ?_)) | ((with_reducible show eV _ _ _ (_ :: Value.int (nI _) :: _) _ _ _ _); refine ev_icmp_leNZ (tgt := 45) dX5_heirOf_38 (by decide) (by first | exact hB _ _ | omega | exact Nat.lt_of_le_of_lt (hlv _) (by decide)) (fun c_38 => ?_) (fun c_38 => ?_)) | (refine ev_icmp_leZZ (tgt := 45) dX5_heirOf_38 (by decide) (fun c_38 => ?_) (fun c_38 => ?_))
        · refine ev_iconst (v := nI 0) dX5_heirOf_45 rfl ?_
          refine ev_istore dX5_heirOf_46 (Nat.le_of_ble_eq_true rfl) ?_
          refine ev_iload dX5_heirOf_48 rfl ?_
          first | ((with_reducible show eV _ _ _ (Value.int (bI _) :: _) _ _ _ _); refine ev_if_eqB (tgt := 79) dX5_heirOf_50 (by decide) (fun c_50 => ?_) (fun c_50 => ?_)) | ((with_reducible show eV _ _ _ (Value.int (nI _) :: _) _ _ _ _); refine ev_if_eqN (tgt := 79) dX5_heirOf_50 (by decide) (by first | exact hB _ _ | omega | exact Nat.lt_of_le_of_lt (hlv _) (by decide)) (fun c_50 => ?_) (fun c_50 => ?_)) | (refine ev_if_eqZ (tgt := 79) dX5_heirOf_50 (by decide) (fun c_50 => ?_) (fun c_50 => ?_))
          · first | refine ev_iincN dX5_heirOf_79 rfl (Nat.le_of_ble_eq_true rfl) ?_ | refine ev_iinc dX5_heirOf_79 rfl rfl (Nat.le_of_ble_eq_true rfl) ?_
            refine ev_goto (tgt := 4) dX5_heirOf_82 (by decide) ?_
            first | (exact (ih_4 _ (by omega) (k + 1) (some k) rfl (by first | omega | assumption | rfl) (by first | omega | (rw [sHeirTo, ← ho, if_neg (by unfold sHeirC; first | (rw [show sYounger σ k p = false from c_62]; simp; done) | (simp only [Bool.and_eq_true, decide_eq_true_eq]; intro q; first | exact absurd q.2.2 (by omega) | exact absurd q.1 (by omega)))]; done) | (rw [sHeirTo, ← ho, if_pos (by unfold sHeirC; rw [show sYounger σ k p = true from c_62]; simp only [Bool.true_and, Bool.and_eq_true, decide_eq_true_eq]; omega)]; done))).sub1 ⟨rfl, rfl, rfl, rfl, trivial⟩ rfl) | (exact (ih_4 _ (by omega) (k + 1) none rfl (by first | omega | assumption | rfl) (by first | omega | (rw [sHeirTo, ← ho, if_neg (by unfold sHeirC; first | (rw [show sYounger σ k p = false from c_62]; simp; done) | (simp only [Bool.and_eq_true, decide_eq_true_eq]; intro q; first | exact absurd q.2.2 (by omega) | exact absurd q.1 (by omega)))]; done) | (rw [sHeirTo, ← ho, if_pos (by unfold sHeirC; rw [show sYounger σ k p = true from c_62]; simp only [Bool.true_and, Bool.and_eq_true, decide_eq_true_eq]; omega)]; done))).sub1 ⟨rfl, rfl, rfl, rfl, trivial⟩ rfl) | (exact (ih_4 _ (by omega) (k + 1) (some e) rfl (by first | omega | assumption | rfl) (by first | omega | (rw [sHeirTo, ← ho, if_neg (by unfold sHeirC; first | (rw [show sYounger σ k p = false from c_62]; simp; done) | (simp only [Bool.and_eq_true, decide_eq_true_eq]; intro q; first | exact absurd q.2.2 (by omega) | exact absurd q.1 (by omega)))]; done) | (rw [sHeirTo, ← ho, if_pos (by unfold sHeirC; rw [show sYounger σ k p = true from c_62]; simp only [Bool.true_and, Bool.and_eq_true, decide_eq_true_eq]; omega)]; done))).sub1 ⟨rfl, rfl, rfl, rfl, trivial⟩ rfl)
          · refine ev_aload_n dX5_heirOf_53 rfl rfl ?_
            refine ev_getfield dX5_heirOf_54 fl_X5_12 (by first | assumption | omega) rfl ?_
            refine ev_iload_n dX5_heirOf_57 rfl rfl ?_
            refine ev_iload_n dX5_heirOf_58 rfl rfl ?_
            refine ev_callVi dX5_heirOf_59 (c_X4_isYoungerBeside (by first | assumption | omega) (by first | assumption | omega) (by first | assumption | omega) (by first | assumption | omega)) rfl lk_X5_170 (by first | assumption | omega) ⟨Nat.le_of_ble_eq_true rfl, Nat.le_of_ble_eq_true rfl⟩ rfl (Nat.le_of_ble_eq_true rfl) ⟨Nat.le_of_ble_eq_true rfl, Nat.le_of_ble_eq_true rfl⟩ (eRo ?_)
            first | ((with_reducible show eV _ _ _ (Value.int (bI _) :: _) _ _ _ _); refine ev_if_eqB (tgt := 79) dX5_heirOf_62 (by decide) (fun c_62 => ?_) (fun c_62 => ?_)) | ((with_reducible show eV _ _ _ (Value.int (nI _) :: _) _ _ _ _); refine ev_if_eqN (tgt := 79) dX5_heirOf_62 (by decide) (by first | exact hB _ _ | omega | exact Nat.lt_of_le_of_lt (hlv _) (by decide)) (fun c_62 => ?_) (fun c_62 => ?_)) | (refine ev_if_eqZ (tgt := 79) dX5_heirOf_62 (by decide) (fun c_62 => ?_) (fun c_62 => ?_))
            · first | refine ev_iincN dX5_heirOf_79 rfl (Nat.le_of_ble_eq_true rfl) ?_ | refine ev_iinc dX5_heirOf_79 rfl rfl (Nat.le_of_ble_eq_true rfl) ?_
              refine ev_goto (tgt := 4) dX5_heirOf_82 (by decide) ?_
              first | (exact (ih_4 _ (by omega) (k + 1) (some k) rfl (by first | omega | assumption | rfl) (by first | omega | (rw [sHeirTo, ← ho, if_neg (by unfold sHeirC; first | (rw [show sYounger σ k p = false from c_62]; simp; done) | (simp only [Bool.and_eq_true, decide_eq_true_eq]; intro q; first | exact absurd q.2.2 (by omega) | exact absurd q.1 (by omega)))]; done) | (rw [sHeirTo, ← ho, if_pos (by unfold sHeirC; rw [show sYounger σ k p = true from c_62]; simp only [Bool.true_and, Bool.and_eq_true, decide_eq_true_eq]; omega)]; done))).sub1 ⟨rfl, rfl, rfl, rfl, trivial⟩ rfl) | (exact (ih_4 _ (by omega) (k + 1) none rfl (by first | omega | assumption | rfl) (by first | omega | (rw [sHeirTo, ← ho, if_neg (by unfold sHeirC; first | (rw [show sYounger σ k p = false from c_62]; simp; done) | (simp only [Bool.and_eq_true, decide_eq_true_eq]; intro q; first | exact absurd q.2.2 (by omega) | exact absurd q.1 (by omega)))]; done) | (rw [sHeirTo, ← ho, if_pos (by unfold sHeirC; rw [show sYounger σ k p = true from c_62]; simp only [Bool.true_and, Bool.and_eq_true, decide_eq_true_eq]; omega)]; done))).sub1 ⟨rfl, rfl, rfl, rfl, trivial⟩ rfl) | (exact (ih_4 _ (by omega) (k + 1) (some e) rfl (by first | omega | assumption | rfl) (by first | omega | (rw [sHeirTo, ← ho, if_neg (by unfold sHeirC; first | (rw [show sYounger σ k p = false from c_62]; simp; done) | (simp only [Bool.and_eq_true, decide_eq_true_eq]; intro q; first | exact absurd q.2.2 (by omega) | exact absurd q.1 (by omega)))]; done) | (rw [sHeirTo, ← ho, if_pos (by unfold sHeirC; rw [show sYounger σ k p = true from c_62]; simp only [Bool.true_and, Bool.and_eq_true, decide_eq_true_eq]; omega)]; done))).sub1 ⟨rfl, rfl, rfl, rfl, trivial⟩ rfl)
            · refine ev_aload_n dX5_heirOf_65 rfl rfl ?_
              refine ev_getfield dX5_heirOf_66 fl_X5_21 (by first | assumption | omega) rfl ?_
              refine ev_iload_n dX5_heirOf_69 rfl rfl ?_
              refine ev_callVi dX5_heirOf_70 (c_X2_aliveOf (by first | assumption | omega) (by first | assumption | omega) (by first | assumption | omega)) rfl lk_X5_78 (by first | assumption | omega) ⟨Nat.le_of_ble_eq_true rfl, Nat.le_of_ble_eq_true rfl⟩ rfl (Nat.le_of_ble_eq_true rfl) ⟨Nat.le_of_ble_eq_true rfl, Nat.le_of_ble_eq_true rfl⟩ (eRo ?_)
              refine ev_iconst (v := nI 3) dX5_heirOf_73 rfl ?_
              first | ((with_reducible show eV _ _ _ (Value.int (nI _) :: Value.int (nI _) :: _) _ _ _ _); refine ev_icmp_geN (tgt := 79) dX5_heirOf_74 (by decide) (by first | exact hB _ _ | omega | exact Nat.lt_of_le_of_lt (hlv _) (by decide)) (by first | exact hB _ _ | omega | exact Nat.lt_of_le_of_lt (hlv _) (by decide)) (fun c_74 => ?_) (fun c_74 => ?_)) | ((with_reducible show eV _ _ _ (Value.int (nI _) :: _) _ _ _ _); refine ev_icmp_geZN (tgt := 79) dX5_heirOf_74 (by decide) (by first | exact hB _ _ | omega | exact Nat.lt_of_le_of_lt (hlv _) (by decide)) (fun c_74 => ?_) (fun c_74 => ?_)) | ((with_reducible show eV _ _ _ (_ :: Value.int (nI _) :: _) _ _ _ _); refine ev_icmp_geNZ (tgt := 79) dX5_heirOf_74 (by decide) (by first | exact hB _ _ | omega | exact Nat.lt_of_le_of_lt (hlv _) (by decide)) (fun c_74 => ?_) (fun c_74 => ?_)) | (refine ev_icmp_geZZ (tgt := 79) dX5_heirOf_74 (by decide) (fun c_74 => ?_) (fun c_74 => ?_))
              · first | refine ev_iincN dX5_heirOf_79 rfl (Nat.le_of_ble_eq_true rfl) ?_ | refine ev_iinc dX5_heirOf_79 rfl rfl (Nat.le_of_ble_eq_true rfl) ?_
                refine ev_goto (tgt := 4) dX5_heirOf_82 (by decide) ?_
                first | (exact (ih_4 _ (by omega) (k + 1) (some k) rfl (by first | omega | assumption | rfl) (by first | omega | (rw [sHeirTo, ← ho, if_neg (by unfold sHeirC; first | (rw [show sYounger σ k p = false from c_62]; simp; done) | (simp only [Bool.and_eq_true, decide_eq_true_eq]; intro q; first | exact absurd q.2.2 (by omega) | exact absurd q.1 (by omega)))]; done) | (rw [sHeirTo, ← ho, if_pos (by unfold sHeirC; rw [show sYounger σ k p = true from c_62]; simp only [Bool.true_and, Bool.and_eq_true, decide_eq_true_eq]; omega)]; done))).sub1 ⟨rfl, rfl, rfl, rfl, trivial⟩ rfl) | (exact (ih_4 _ (by omega) (k + 1) none rfl (by first | omega | assumption | rfl) (by first | omega | (rw [sHeirTo, ← ho, if_neg (by unfold sHeirC; first | (rw [show sYounger σ k p = false from c_62]; simp; done) | (simp only [Bool.and_eq_true, decide_eq_true_eq]; intro q; first | exact absurd q.2.2 (by omega) | exact absurd q.1 (by omega)))]; done) | (rw [sHeirTo, ← ho, if_pos (by unfold sHeirC; rw [show sYounger σ k p = true from c_62]; simp only [Bool.true_and, Bool.and_eq_true, decide_eq_true_eq]; omega)]; done))).sub1 ⟨rfl, rfl, rfl, rfl, trivial⟩ rfl) | (exact (ih_4 _ (by omega) (k + 1) (some e) rfl (by first | omega | assumption | rfl) (by first | omega | (rw [sHeirTo, ← ho, if_neg (by unfold sHeirC; first | (rw [show sYounger σ k p = false from c_62]; simp; done) | (simp only [Bool.and_eq_true, decide_eq_true_eq]; intro q; first | exact absurd q.2.2 (by omega) | exact absurd q.1 (by omega)))]; done) | (rw [sHeirTo, ← ho, if_pos (by unfold sHeirC; rw [show sYounger σ k p = true from c_62]; simp only [Bool.true_and, Bool.and_eq_true, decide_eq_true_eq]; omega)]; done))).sub1 ⟨rfl, rfl, rfl, rfl, trivial⟩ rfl)
              · refine ev_iload_n dX5_heirOf_77 rfl rfl ?_
                refine ev_istore_n dX5_heirOf_78 rfl (Nat.le_of_ble_eq_true rfl) ?_
                first | refine ev_iincN dX5_heirOf_79 rfl (Nat.le_of_ble_eq_true rfl) ?_ | refine ev_iinc dX5_heirOf_79 rfl rfl (Nat.le_of_ble_eq_true rfl) ?_
                refine ev_goto (tgt := 4) dX5_heirOf_82 (by decide) ?_
                first | (exact (ih_4 _ (by omega) (k + 1) (some k) rfl (by first | omega | assumption | rfl) (by first | omega | (rw [sHeirTo, ← ho, if_neg (by unfold sHeirC; first | (rw [show sYounger σ k p = false from c_62]; simp; done) | (simp only [Bool.and_eq_true, decide_eq_true_eq]; intro q; first | exact absurd q.2.2 (by omega) | exact absurd q.1 (by omega)))]; done) | (rw [sHeirTo, ← ho, if_pos (by unfold sHeirC; rw [show sYounger σ k p = true from c_62]; simp only [Bool.true_and, Bool.and_eq_true, decide_eq_true_eq]; omega)]; done))).sub1 ⟨rfl, rfl, rfl, rfl, trivial⟩ rfl) | (exact (ih_4 _ (by omega) (k + 1) none rfl (by first | omega | assumption | rfl) (by first | omega | (rw [sHeirTo, ← ho, if_neg (by unfold sHeirC; first | (rw [show sYounger σ k p = false from c_62]; simp; done) | (simp only [Bool.and_eq_true, decide_eq_true_eq]; intro q; first | exact absurd q.2.2 (by omega) | exact absurd q.1 (by omega)))]; done) | (rw [sHeirTo, ← ho, if_pos (by unfold sHeirC; rw [show sYounger σ k p = true from c_62]; simp only [Bool.true_and, Bool.and_eq_true, decide_eq_true_eq]; omega)]; done))).sub1 ⟨rfl, rfl, rfl, rfl, trivial⟩ rfl) | (exact (ih_4 _ (by omega) (k + 1) (some e) rfl (by first | omega | assumption | rfl) (by first | omega | (rw [sHeirTo, ← ho, if_neg (by unfold sHeirC; first | (rw [show sYounger σ k p = false from c_62]; simp; done) | (simp only [Bool.and_eq_true, decide_eq_true_eq]; intro q; first | exact absurd q.2.2 (by omega) | exact absurd q.1 (by omega)))]; done) | (rw [sHeirTo, ← ho, if_pos (by unfold sHeirC; rw [show sYounger σ k p = true from c_62]; simp only [Bool.true_and, Bool.and_eq_true, decide_eq_true_eq]; omega)]; done))).sub1 ⟨rfl, rfl, rfl, rfl, trivial⟩ rfl)
        · refine ev_iconst (v := nI 1) dX5_heirOf_41 rfl ?_
          refine ev_goto (tgt := 46) dX5_heirOf_42 (by decide) ?_
          refine ev_istore dX5_heirOf_46 (Nat.le_of_ble_eq_true rfl) ?_
          refine ev_iload dX5_heirOf_48 rfl ?_
          first | ((with_reducible show eV _ _ _ (Value.int (bI _) :: _) _ _ _ _); refine ev_if_eqB (tgt := 79) dX5_heirOf_50 (by decide) (fun c_50 => ?_) (fun c_50 => ?_)) | ((with_reducible show eV _ _ _ (Value.int (nI _) :: _) _ _ _ _); refine ev_if_eqN (tgt := 79) dX5_heirOf_50 (by decide) (by first | exact hB _ _ | omega | exact Nat.lt_of_le_of_lt (hlv _) (by decide)) (fun c_50 => ?_) (fun c_50 => ?_)) | (refine ev_if_eqZ (tgt := 79) dX5_heirOf_50 (by decide) (fun c_50 => ?_) (fun c_50 => ?_))
          · first | refine ev_iincN dX5_heirOf_79 rfl (Nat.le_of_ble_eq_true rfl) ?_ | refine ev_iinc dX5_heirOf_79 rfl rfl (Nat.le_of_ble_eq_true rfl) ?_
            refine ev_goto (tgt := 4) dX5_heirOf_82 (by decide) ?_
            first | (exact (ih_4 _ (by omega) (k + 1) (some k) rfl (by first | omega | assumption | rfl) (by first | omega | (rw [sHeirTo, ← ho, if_neg (by unfold sHeirC; first | (rw [show sYounger σ k p = false from c_62]; simp; done) | (simp only [Bool.and_eq_true, decide_eq_true_eq]; intro q; first | exact absurd q.2.2 (by omega) | exact absurd q.1 (by omega)))]; done) | (rw [sHeirTo, ← ho, if_pos (by unfold sHeirC; rw [show sYounger σ k p = true from c_62]; simp only [Bool.true_and, Bool.and_eq_true, decide_eq_true_eq]; omega)]; done))).sub1 ⟨rfl, rfl, rfl, rfl, trivial⟩ rfl) | (exact (ih_4 _ (by omega) (k + 1) none rfl (by first | omega | assumption | rfl) (by first | omega | (rw [sHeirTo, ← ho, if_neg (by unfold sHeirC; first | (rw [show sYounger σ k p = false from c_62]; simp; done) | (simp only [Bool.and_eq_true, decide_eq_true_eq]; intro q; first | exact absurd q.2.2 (by omega) | exact absurd q.1 (by omega)))]; done) | (rw [sHeirTo, ← ho, if_pos (by unfold sHeirC; rw [show sYounger σ k p = true from c_62]; simp only [Bool.true_and, Bool.and_eq_true, decide_eq_true_eq]; omega)]; done))).sub1 ⟨rfl, rfl, rfl, rfl, trivial⟩ rfl) | (exact (ih_4 _ (by omega) (k + 1) (some e) rfl (by first | omega | assumption | rfl) (by first | omega | (rw [sHeirTo, ← ho, if_neg (by unfold sHeirC; first | (rw [show sYounger σ k p = false from c_62]; simp; done) | (simp only [Bool.and_eq_true, decide_eq_true_eq]; intro q; first | exact absurd q.2.2 (by omega) | exact absurd q.1 (by omega)))]; done) | (rw [sHeirTo, ← ho, if_pos (by unfold sHeirC; rw [show sYounger σ k p = true from c_62]; simp only [Bool.true_and, Bool.and_eq_true, decide_eq_true_eq]; omega)]; done))).sub1 ⟨rfl, rfl, rfl, rfl, trivial⟩ rfl)
          · refine ev_aload_n dX5_heirOf_53 rfl rfl ?_
            refine ev_getfield dX5_heirOf_54 fl_X5_12 (by first | assumption | omega) rfl ?_
            refine ev_iload_n dX5_heirOf_57 rfl rfl ?_
            refine ev_iload_n dX5_heirOf_58 rfl rfl ?_
            refine ev_callVi dX5_heirOf_59 (c_X4_isYoungerBeside (by first | assumption | omega) (by first | assumption | omega) (by first | assumption | omega) (by first | assumption | omega)) rfl lk_X5_170 (by first | assumption | omega) ⟨Nat.le_of_ble_eq_true rfl, Nat.le_of_ble_eq_true rfl⟩ rfl (Nat.le_of_ble_eq_true rfl) ⟨Nat.le_of_ble_eq_true rfl, Nat.le_of_ble_eq_true rfl⟩ (eRo ?_)
            first | ((with_reducible show eV _ _ _ (Value.int (bI _) :: _) _ _ _ _); refine ev_if_eqB (tgt := 79) dX5_heirOf_62 (by decide) (fun c_62 => ?_) (fun c_62 => ?_)) | ((with_reducible show eV _ _ _ (Value.int (nI _) :: _) _ _ _ _); refine ev_if_eqN (tgt := 79) dX5_heirOf_62 (by decide) (by first | exact hB _ _ | omega | exact Nat.lt_of_le_of_lt (hlv _) (by decide)) (fun c_62 => ?_) (fun c_62 => ?_)) | (refine ev_if_eqZ (tgt := 79) dX5_heirOf_62 (by decide) (fun c_62 => ?_) (fun c_62 => ?_))
            · first | refine ev_iincN dX5_heirOf_79 rfl (Nat.le_of_ble_eq_true rfl) ?_ | refine ev_iinc dX5_heirOf_79 rfl rfl (Nat.le_of_ble_eq_true rfl) ?_
              refine ev_goto (tgt := 4) dX5_heirOf_82 (by decide) ?_
              first | (exact (ih_4 _ (by omega) (k + 1) (some k) rfl (by first | omega | assumption | rfl) (by first | omega | (rw [sHeirTo, ← ho, if_neg (by unfold sHeirC; first | (rw [show sYounger σ k p = false from c_62]; simp; done) | (simp only [Bool.and_eq_true, decide_eq_true_eq]; intro q; first | exact absurd q.2.2 (by omega) | exact absurd q.1 (by omega)))]; done) | (rw [sHeirTo, ← ho, if_pos (by unfold sHeirC; rw [show sYounger σ k p = true from c_62]; simp only [Bool.true_and, Bool.and_eq_true, decide_eq_true_eq]; omega)]; done))).sub1 ⟨rfl, rfl, rfl, rfl, trivial⟩ rfl) | (exact (ih_4 _ (by omega) (k + 1) none rfl (by first | omega | assumption | rfl) (by first | omega | (rw [sHeirTo, ← ho, if_neg (by unfold sHeirC; first | (rw [show sYounger σ k p = false from c_62]; simp; done) | (simp only [Bool.and_eq_true, decide_eq_true_eq]; intro q; first | exact absurd q.2.2 (by omega) | exact absurd q.1 (by omega)))]; done) | (rw [sHeirTo, ← ho, if_pos (by unfold sHeirC; rw [show sYounger σ k p = true from c_62]; simp only [Bool.true_and, Bool.and_eq_true, decide_eq_true_eq]; omega)]; done))).sub1 ⟨rfl, rfl, rfl, rfl, trivial⟩ rfl) | (exact (ih_4 _ (by omega) (k + 1) (some e) rfl (by first | omega | assumption | rfl) (by first | omega | (rw [sHeirTo, ← ho, if_neg (by unfold sHeirC; first | (rw [show sYounger σ k p = false from c_62]; simp; done) | (simp only [Bool.and_eq_true, decide_eq_true_eq]; intro q; first | exact absurd q.2.2 (by omega) | exact absurd q.1 (by omega)))]; done) | (rw [sHeirTo, ← ho, if_pos (by unfold sHeirC; rw [show sYounger σ k p = true from c_62]; simp only [Bool.true_and, Bool.and_eq_true, decide_eq_true_eq]; omega)]; done))).sub1 ⟨rfl, rfl, rfl, rfl, trivial⟩ rfl)
            · refine ev_aload_n dX5_heirOf_65 rfl rfl ?_
              refine ev_getfield dX5_heirOf_66 fl_X5_21 (by first | assumption | omega) rfl ?_
              refine ev_iload_n dX5_heirOf_69 rfl rfl ?_
              refine ev_callVi dX5_heirOf_70 (c_X2_aliveOf (by first | assumption | omega) (by first | assumption | omega) (by first | assumption | omega)) rfl lk_X5_78 (by first | assumption | omega) ⟨Nat.le_of_ble_eq_true rfl, Nat.le_of_ble_eq_true rfl⟩ rfl (Nat.le_of_ble_eq_true rfl) ⟨Nat.le_of_ble_eq_true rfl, Nat.le_of_ble_eq_true rfl⟩ (eRo ?_)
              refine ev_iconst (v := nI 3) dX5_heirOf_73 rfl ?_
              first | ((with_reducible show eV _ _ _ (Value.int (nI _) :: Value.int (nI _) :: _) _ _ _ _); refine ev_icmp_geN (tgt := 79) dX5_heirOf_74 (by decide) (by first | exact hB _ _ | omega | exact Nat.lt_of_le_of_lt (hlv _) (by decide)) (by first | exact hB _ _ | omega | exact Nat.lt_of_le_of_lt (hlv _) (by decide)) (fun c_74 => ?_) (fun c_74 => ?_)) | ((with_reducible show eV _ _ _ (Value.int (nI _) :: _) _ _ _ _); refine ev_icmp_geZN (tgt := 79) dX5_heirOf_74 (by decide) (by first | exact hB _ _ | omega | exact Nat.lt_of_le_of_lt (hlv _) (by decide)) (fun c_74 => ?_) (fun c_74 => ?_)) | ((with_reducible show eV _ _ _ (_ :: Value.int (nI _) :: _) _ _ _ _); refine ev_icmp_geNZ (tgt := 79) dX5_heirOf_74 (by decide) (by first | exact hB _ _ | omega | exact Nat.lt_of_le_of_lt (hlv _) (by decide)) (fun c_74 => ?_) (fun c_74 => ?_)) | (refine ev_icmp_geZZ (tgt := 79) dX5_heirOf_74 (by decide) (fun c_74 => ?_) (fun c_74 => ?_))
              · first | refine ev_iincN dX5_heirOf_79 rfl (Nat.le_of_ble_eq_true rfl) ?_ | refine ev_iinc dX5_heirOf_79 rfl rfl (Nat.le_of_ble_eq_true rfl) ?_
                refine ev_goto (tgt := 4) dX5_heirOf_82 (by decide) ?_
                first | (exact (ih_4 _ (by omega) (k + 1) (some k) rfl (by first | omega | assumption | rfl) (by first | omega | (rw [sHeirTo, ← ho, if_neg (by unfold sHeirC; first | (rw [show sYounger σ k p = false from c_62]; simp; done) | (simp only [Bool.and_eq_true, decide_eq_true_eq]; intro q; first | exact absurd q.2.2 (by omega) | exact absurd q.1 (by omega)))]; done) | (rw [sHeirTo, ← ho, if_pos (by unfold sHeirC; rw [show sYounger σ k p = true from c_62]; simp only [Bool.true_and, Bool.and_eq_true, decide_eq_true_eq]; omega)]; done))).sub1 ⟨rfl, rfl, rfl, rfl, trivial⟩ rfl) | (exact (ih_4 _ (by omega) (k + 1) none rfl (by first | omega | assumption | rfl) (by first | omega | (rw [sHeirTo, ← ho, if_neg (by unfold sHeirC; first | (rw [show sYounger σ k p = false from c_62]; simp; done) | (simp only [Bool.and_eq_true, decide_eq_true_eq]; intro q; first | exact absurd q.2.2 (by omega) | exact absurd q.1 (by omega)))]; done) | (rw [sHeirTo, ← ho, if_pos (by unfold sHeirC; rw [show sYounger σ k p = true from c_62]; simp only [Bool.true_and, Bool.and_eq_true, decide_eq_true_eq]; omega)]; done))).sub1 ⟨rfl, rfl, rfl, rfl, trivial⟩ rfl) | (exact (ih_4 _ (by omega) (k + 1) (some e) rfl (by first | omega | assumption | rfl) (by first | omega | (rw [sHeirTo, ← ho, if_neg (by unfold sHeirC; first | (rw [show sYounger σ k p = false from c_62]; simp; done) | (simp only [Bool.and_eq_true, decide_eq_true_eq]; intro q; first | exact absurd q.2.2 (by omega) | exact absurd q.1 (by omega)))]; done) | (rw [sHeirTo, ← ho, if_pos (by unfold sHeirC; rw [show sYounger σ k p = true from c_62]; simp only [Bool.true_and, Bool.and_eq_true, decide_eq_true_eq]; omega)]; done))).sub1 ⟨rfl, rfl, rfl, rfl, trivial⟩ rfl)
              · refine ev_iload_n dX5_heirOf_77 rfl rfl ?_
                refine ev_istore_n dX5_heirOf_78 rfl (Nat.le_of_ble_eq_true rfl) ?_
                first | refine ev_iincN dX5_heirOf_79 rfl (Nat.le_of_ble_eq_true rfl) ?_ | refine ev_iinc dX5_heirOf_79 rfl rfl (Nat.le_of_ble_eq_true rfl) ?_
                refine ev_goto (tgt := 4) dX5_heirOf_82 (by decide) ?_
                first | (exact (ih_4 _ (by omega) (k + 1) (some k) rfl (by first | omega | assumption | rfl) (by first | omega | (rw [sHeirTo, ← ho, if_neg (by unfold sHeirC; first | (rw [show sYounger σ k p = false from c_62]; simp; done) | (simp only [Bool.and_eq_true, decide_eq_true_eq]; intro q; first | exact absurd q.2.2 (by omega) | exact absurd q.1 (by omega)))]; done) | (rw [sHeirTo, ← ho, if_pos (by unfold sHeirC; rw [show sYounger σ k p = true from c_62]; simp only [Bool.true_and, Bool.and_eq_true, decide_eq_true_eq]; omega)]; done))).sub1 ⟨rfl, rfl, rfl, rfl, trivial⟩ rfl) | (exact (ih_4 _ (by omega) (k + 1) none rfl (by first | omega | assumption | rfl) (by first | omega | (rw [sHeirTo, ← ho, if_neg (by unfold sHeirC; first | (rw [show sYounger σ k p = false from c_62]; simp; done) | (simp only [Bool.and_eq_true, decide_eq_true_eq]; intro q; first | exact absurd q.2.2 (by omega) | exact absurd q.1 (by omega)))]; done) | (rw [sHeirTo, ← ho, if_pos (by unfold sHeirC; rw [show sYounger σ k p = true from c_62]; simp only [Bool.true_and, Bool.and_eq_true, decide_eq_true_eq]; omega)]; done))).sub1 ⟨rfl, rfl, rfl, rfl, trivial⟩ rfl) | (exact (ih_4 _ (by omega) (k + 1) (some e) rfl (by first | omega | assumption | rfl) (by first | omega | (rw [sHeirTo, ← ho, if_neg (by unfold sHeirC; first | (rw [show sYounger σ k p = false from c_62]; simp; done) | (simp only [Bool.and_eq_true, decide_eq_true_eq]; intro q; first | exact absurd q.2.2 (by omega) | exact absurd q.1 (by omega)))]; done) | (rw [sHeirTo, ← ho, if_pos (by unfold sHeirC; rw [show sYounger σ k p = true from c_62]; simp only [Bool.true_and, Bool.and_eq_true, decide_eq_true_eq]; omega)]; done))).sub1 ⟨rfl, rfl, rfl, rfl, trivial⟩ rfl)
  exact (H_4 _ 0 none rfl (by first | omega | assumption | rfl) (by first | omega | assumption | rfl)).sub1 ⟨rfl, rfl, rfl, rfl, trivial⟩ rfl

