def eSe (h : eH) (q : Nat) (wt : Nat → Nat) : Prop := h q = some (.inr (0, [.ref (q + 1)])) ∧ eArr h (q + 1) 0 26 26 wt
theorem eSe.ob {h : eH} {q : Nat} {wt : Nat → Nat} (hW : eSe h q wt) : h q = some (.inr (0, [.ref (q + 1)])) := hW.1
def sOcc (m c j a : Nat) : Bool := (fst (fun i => decide (sLet m c i = a)) j).isSome
def sAddL (wt : Nat → Nat) (m c j : Nat) : Nat → Nat := fun a => wt a + (if sOcc m c j a = true then 1 else 0)
theorem sOcc_s (m c j a : Nat) : sOcc m c (j + 1) a = (sOcc m c j a || decide (sLet m c j = a)) := by
  unfold sOcc
  rw [fst]
  cases fst (fun i => decide (sLet m c i = a)) j with
  | none =>
    by_cases z : sLet m c j = a
    · simp [z]
    · simp [z]
  | some e => rfl
theorem sAddL_r {wt : Nat → Nat} {m c j : Nat} (h : sRep m c j = true) (a : Nat) : sAddL wt m c j a = sAddL wt m c (j + 1) a := by
  unfold sAddL
  rw [sOcc_s]
  by_cases z : sLet m c j = a
  · subst z
    rw [show sOcc m c j (sLet m c j) = true from h]; rfl
  · simp [z]
theorem sAddL_n {wt : Nat → Nat} {m c j : Nat} (h : sRep m c j = false) (a : Nat) : (if a = sLet m c j then sAddL wt m c j (sLet m c j) + 1 else sAddL wt m c j a) = sAddL wt m c (j + 1) a := by
  unfold sAddL
  rw [sOcc_s]
  by_cases z : a = sLet m c j
  · subst z
    rw [show sOcc m c j (sLet m c j) = false from h]; simp
  · simp [z, Ne.symm z]
def sHavTo (σ : St) : Nat → Nat → Nat
  | 0 => fun _ => 0
  | k + 1 => if sAlive σ k = true then sAddL (sHavTo σ k) (σ 6 k) (σ 7 k) (σ 6 k) else sHavTo σ k
theorem sHavTo_le (σ : St) : ∀ k a, sHavTo σ k a ≤ k
  | 0, _ => Nat.le_refl 0
  | k + 1, a => by
    have h := sHavTo_le σ k a
    rw [sHavTo]
    split
    · unfold sAddL; split <;> omega
    · omega
def sHav (σ : St) : Nat → Nat := sHavTo σ (σ 0 1)
def sWith (H : Nat → Nat) (m c : Nat) : Nat := sSum (fun i => H (sLet m c i)) m
def sBestTo (σ : St) (p m : Nat) : Nat → Option Nat × Nat
  | 0 => (none, 0)
  | k + 1 => if ((sBestTo σ p m k).1 = none ∨ sWith (sHav σ) m k < (sBestTo σ p m k).2) ∧ (sNameOn σ (σ 3 p) none m k).isSome = false then (some k, sWith (sHav σ) m k) else sBestTo σ p m k
def sBest (σ : St) (g p m : Nat) : Option Nat := if sWhyAny σ g p ≠ 0 ∨ 40 ≤ σ 0 1 then none else (sBestTo σ p m (26 ^ m)).1
theorem sSum_le {f : Nat → Nat} {b : Nat} (h : ∀ i, f i ≤ b) : ∀ n, sSum f n ≤ n * b
  | 0 => Nat.zero_le _
  | n + 1 => by
    have := sSum_le h n
    have := h n
    rw [sSum, Nat.succ_mul]; omega
set_option maxHeartbeats 4000000 in
set_option maxRecDepth 20000 in
theorem c_X1_countLetters {h : eH} {n q m c : Nat} {wt : Nat → Nat} (hW : eSe h q wt) (hm : 1 ≤ m ∧ m ≤ 4) (hc : c < 2 ^ 31) : kX1_countLetters [.ref q, .int (nI m), .int (nI c)] h n (.inl none, (fun g => eSe g q (sAddL wt m c m) ∧ eFr h g q (q + 2)), some n) 0 0 := by
  refine eM.of RX1 "countLetters" [(0, .ref q), (1, .int (nI m)), (2, .int (nI c))] pn_X1 rfl rfl (Nat.le_of_ble_eq_true rfl) rfl ?_
  refine ev_iconst (v := nI 0) dX1_countLetters_0 rfl ?_
  refine ev_istore_n dX1_countLetters_1 rfl (Nat.le_of_ble_eq_true rfl) ?_
  have H_2 : ∀ (d_2 : Nat) (j : Nat) (g : eH), d_2 = m - j → (j ≤ m) → (g q = some (.inr (0, [.ref (q + 1)]))) → (eArr g (q + 1) 0 26 26 (sAddL wt m c j)) → (eFr h g q (q + 2)) → eV mX1_countLetters 2 [(0, .ref q), (1, .int (nI m)), (2, .int (nI c)), (3, .int (nI j))] [] (g, n, 0, 0) (.inl none, (fun g => eSe g q (sAddL wt m c m) ∧ eFr h g q (q + 2)), some n) 0 0 := by
    intro d_2
    induction d_2 using Nat.strongRecOn with
    | _ d_2 ih_2 =>
    intro j g hd_2 hj t0 t1 FR
    refine ev_iload_n dX1_countLetters_2 rfl rfl ?_
    refine ev_iload_n dX1_countLetters_3 rfl rfl ?_
    first | ((with_reducible show eV _ _ _ (Value.int (nI _) :: Value.int (nI _) :: _) _ _ _ _); refine ev_icmp_geN (tgt := 37) dX1_countLetters_4 (by decide) (by first | omega | exact Nat.lt_trans (sLet_lt _ _ _) (by decide)) (by first | omega | exact Nat.lt_trans (sLet_lt _ _ _) (by decide)) (fun c_4 => ?_) (fun c_4 => ?_)) | ((with_reducible show eV _ _ _ (Value.int (nI _) :: _) _ _ _ _); refine ev_icmp_geZN (tgt := 37) dX1_countLetters_4 (by decide) (by first | omega | exact Nat.lt_trans (sLet_lt _ _ _) (by decide)) (fun c_4 => ?_) (fun c_4 => ?_)) | ((with_reducible show eV _ _ _ (_ :: Value.int (nI _) :: _) _ _ _ _); refine ev_icmp_geNZ (tgt := 37) dX1_countLetters_4 (by decide) (by first | omega | exact Nat.lt_trans (sLet_lt _ _ _) (by decide)) (fun c_4 => ?_) (fun c_4 => ?_)) | (refine ev_icmp_geZZ (tgt := 37) dX1_countLetters_4 (by decide) (fun c_4 => ?_) (fun c_4 => ?_))
    · exact ev_vret dX1_countLetters_37 rfl rfl (by have e : j = m := (by omega); exact ⟨⟨t0, by rw [← e]; exact e ▸ t1⟩, FR⟩) (fun _ e => Option.some.inj e) (Nat.le_of_ble_eq_true rfl) (Nat.le_of_ble_eq_true rfl)
    · refine ev_iload_n dX1_countLetters_7 rfl rfl ?_
      refine ev_iload_n dX1_countLetters_8 rfl rfl ?_
      refine ev_iload_n dX1_countLetters_9 rfl rfl ?_
      refine ev_callSi dX1_countLetters_10 (c_X0_isRepeated (by first | assumption | omega | exact sLet_lt _ _ _) (by first | assumption | omega | exact sLet_lt _ _ _) (by first | assumption | omega | exact sLet_lt _ _ _)) lk_X1_75 ⟨Nat.le_of_ble_eq_true rfl, Nat.le_of_ble_eq_true rfl⟩ rfl (Nat.le_of_ble_eq_true rfl) ⟨Nat.le_of_ble_eq_true rfl, Nat.le_of_ble_eq_true rfl⟩ (eRo ?_)
      first | ((with_reducible show eV _ _ _ (Value.int (bI _) :: _) _ _ _ _); refine ev_if_neB (tgt := 31) dX1_countLetters_13 (by decide) (fun c_13 => ?_) (fun c_13 => ?_)) | ((with_reducible show eV _ _ _ (Value.int (nI _) :: _) _ _ _ _); refine ev_if_neN (tgt := 31) dX1_countLetters_13 (by decide) (by first | omega | exact Nat.lt_trans (sLet_lt _ _ _) (by decide)) (fun c_13 => ?_) (fun c_13 => ?_)) | (refine ev_if_neZ (tgt := 31) dX1_countLetters_13 (by decide) (fun c_13 => ?_) (fun c_13 => ?_))
      · first | refine ev_iincN dX1_countLetters_31 rfl (Nat.le_of_ble_eq_true rfl) ?_ | refine ev_iinc dX1_countLetters_31 rfl rfl (Nat.le_of_ble_eq_true rfl) ?_
        refine ev_goto (tgt := 2) dX1_countLetters_34 (by decide) ?_
        exact (ih_2 _ (by omega) (j + 1) _ rfl (by first | omega | assumption | rfl) (by first | omega | assumption | rfl) (by first | exact t1.congr (fun a _ => sAddL_r c_13 a) | exact t1.congr (fun a _ => sAddL_n c_13 a)) (by first | omega | assumption | rfl)).sub1 ⟨rfl, rfl, rfl, rfl, trivial⟩ rfl
      · refine ev_aload_n dX1_countLetters_16 rfl rfl ?_
        refine ev_getfield dX1_countLetters_17 fl_X1_9 (by first | assumption | omega | exact sLet_lt _ _ _) rfl ?_
        refine ev_iload_n dX1_countLetters_20 rfl rfl ?_
        refine ev_iload_n dX1_countLetters_21 rfl rfl ?_
        refine ev_iload_n dX1_countLetters_22 rfl rfl ?_
        refine ev_callSi dX1_countLetters_23 (c_X0_at (by first | assumption | omega | exact sLet_lt _ _ _) (by first | assumption | omega | exact sLet_lt _ _ _) (by first | assumption | omega | exact sLet_lt _ _ _)) lk_X1_79 ⟨Nat.le_of_ble_eq_true rfl, Nat.le_of_ble_eq_true rfl⟩ rfl (Nat.le_of_ble_eq_true rfl) ⟨Nat.le_of_ble_eq_true rfl, Nat.le_of_ble_eq_true rfl⟩ (eRo ?_)
        refine ev_dup2 dX1_countLetters_26 rfl rfl ?_
        refine ev_ialoadA dX1_countLetters_27 (by first | assumption | omega | exact sLet_lt _ _ _) (by first | assumption | omega | exact sLet_lt _ _ _) ?_
        refine ev_iconst (v := nI 1) dX1_countLetters_28 rfl ?_
        first | refine ev_iaddN dX1_countLetters_29 ?_ | refine ev_iadd dX1_countLetters_29 ?_
        refine ev_iastoreA dX1_countLetters_30 (by first | assumption | omega | exact sLet_lt _ _ _) (by first | assumption | omega | exact sLet_lt _ _ _) (fun g_30 fr_30 w_30 => ?_)
        first | replace t0 := eArr.fr t0 (fr_30 _ (by omega)) | replace t0 := Eq.trans (fr_30 _ (by omega)) t0 | replace t0 := eBo.fr t0 (fr_30 _ (by omega)) | replace t0 := z_30 t0 | replace t0 := z_30 | replace t0 := ePp.fr1 t0 (fun a _ _ => fr_30 a (by omega)) | replace t0 := eNm.fr1 t0 (fun a _ _ => fr_30 a (by omega)) | replace t0 := eRg.fr t0 (fun a _ _ => fr_30 a (by omega)) | replace t0 := eTx.fr t0 (fun a _ _ => fr_30 a (by omega)) | replace t0 := ePa.fr t0 (fun a _ _ => fr_30 a (by omega)) | replace t0 := eRf.fr t0 (fr_30 _ (by omega))
        replace t1 := w_30 _ (Or.inl (Nat.le_refl _))
        first | replace FR := eFr.trans FR (eFr.one fr_30 (by omega) (by omega)) | replace FR := eFr.trans FR (eFr.wide fr_30 (by omega) (by omega))
        first | refine ev_iincN dX1_countLetters_31 rfl (Nat.le_of_ble_eq_true rfl) ?_ | refine ev_iinc dX1_countLetters_31 rfl rfl (Nat.le_of_ble_eq_true rfl) ?_
        refine ev_goto (tgt := 2) dX1_countLetters_34 (by decide) ?_
        exact (ih_2 _ (by omega) (j + 1) _ rfl (by first | omega | assumption | rfl) (by first | omega | assumption | rfl) (by first | exact t1.congr (fun a _ => sAddL_r c_13 a) | exact t1.congr (fun a _ => sAddL_n c_13 a)) (by first | omega | assumption | rfl)).sub1 ⟨rfl, rfl, rfl, rfl, trivial⟩ rfl
  exact (H_2 _ 0 h rfl (by first | omega | assumption | rfl) (by exact hW.1) (by exact hW.2.congr (fun a _ => rfl)) (by exact eFr.rf)).sub1 ⟨rfl, rfl, rfl, rfl, trivial⟩ rfl
set_option maxHeartbeats 4000000 in
set_option maxRecDepth 20000 in
theorem c_X1_countNames {h : eH} {n q s : Nat} {σ : St} {wt : Nat → Nat} (hW : eSe h q wt) (hN : eNm h s σ) (hO : eOK σ) (hd : q + 2 ≤ s ∨ s + 9 ≤ q) : kX1_countNames [.ref q, .ref s] h n (.inl none, (fun g => eSe g q (sHav σ) ∧ eFr h g q (q + 2)), some n) 0 0 := by
  refine eM.of RX1 "countNames" [(0, .ref q), (1, .ref s)] pn_X1 rfl rfl (Nat.le_of_ble_eq_true rfl) rfl ?_
  have hB : eB σ := hO.1
  have hz2 := hO.2.2.1
  refine ev_iconst (v := nI 0) dX1_countNames_0 rfl ?_
  refine ev_istore_n dX1_countNames_1 rfl (Nat.le_of_ble_eq_true rfl) ?_
  have H_2 : ∀ (d_2 : Nat) (i : Nat) (g : eH), d_2 = 26 - i → (i ≤ 26) → (g q = some (.inr (0, [.ref (q + 1)]))) → (eArr g (q + 1) 0 26 26 (fun j => if j < i then 0 else wt j)) → (eNm g s σ) → (eFr h g q (q + 2)) → eV mX1_countNames 2 [(0, .ref q), (1, .ref s), (2, .int (nI i))] [] (g, n, 0, 0) (.inl none, (fun g => eSe g q (sHav σ) ∧ eFr h g q (q + 2)), some n) 0 0 := by
    intro d_2
    induction d_2 using Nat.strongRecOn with
    | _ d_2 ih_2 =>
    intro i g hd_2 hi t0 t1 hN FR
    refine ev_iload_n dX1_countNames_2 rfl rfl ?_
    refine ev_bipush (v := nI 26) dX1_countNames_3 rfl ?_
    first | ((with_reducible show eV _ _ _ (Value.int (nI _) :: Value.int (nI _) :: _) _ _ _ _); refine ev_icmp_geN (tgt := 21) dX1_countNames_5 (by decide) (by first | exact hB _ _ | omega) (by first | exact hB _ _ | omega) (fun c_5 => ?_) (fun c_5 => ?_)) | ((with_reducible show eV _ _ _ (Value.int (nI _) :: _) _ _ _ _); refine ev_icmp_geZN (tgt := 21) dX1_countNames_5 (by decide) (by first | exact hB _ _ | omega) (fun c_5 => ?_) (fun c_5 => ?_)) | ((with_reducible show eV _ _ _ (_ :: Value.int (nI _) :: _) _ _ _ _); refine ev_icmp_geNZ (tgt := 21) dX1_countNames_5 (by decide) (by first | exact hB _ _ | omega) (fun c_5 => ?_) (fun c_5 => ?_)) | (refine ev_icmp_geZZ (tgt := 21) dX1_countNames_5 (by decide) (fun c_5 => ?_) (fun c_5 => ?_))
    · have t2 : eArr g (q + 1) 0 26 26 (sHavTo σ 0) := t1.congr (fun a ha => by rw [if_pos (by omega)]; rfl)
      refine ev_iconst (v := nI 0) dX1_countNames_21 rfl ?_
      refine ev_istore_n dX1_countNames_22 rfl (Nat.le_of_ble_eq_true rfl) ?_
      have H_23 : ∀ (d_23 : Nat) (k : Nat) (g2 : eH), d_23 = σ 0 1 - k → (k ≤ σ 0 1) → (eSe g2 q (sHavTo σ k)) → (eNm g2 s σ) → (eFr h g2 q (q + 2)) → eV mX1_countNames 23 [(0, .ref q), (1, .ref s), (2, .int (nI k))] [] (g2, n, 0, 0) (.inl none, (fun g => eSe g q (sHav σ) ∧ eFr h g q (q + 2)), some n) 0 0 := by
        intro d_23
        induction d_23 using Nat.strongRecOn with
        | _ d_23 ih_23 =>
        intro k g2 hd_23 hk hW2 hN FR
        obtain ⟨n0, n1, n2, n3, n4, n5, n6, n7, n8, n9⟩ := id hN
        refine ev_iload_n dX1_countNames_23 rfl rfl ?_
        refine ev_aload_n dX1_countNames_24 rfl rfl ?_
        refine ev_getfield dX1_countNames_25 fl_X1_57 (by first | assumption | omega | exact eSe.ob (by assumption) | exact eNm.ob (by assumption)) rfl ?_
        first | ((with_reducible show eV _ _ _ (Value.int (nI _) :: Value.int (nI _) :: _) _ _ _ _); refine ev_icmp_geN (tgt := 61) dX1_countNames_28 (by decide) (by first | exact hB _ _ | omega) (by first | exact hB _ _ | omega) (fun c_28 => ?_) (fun c_28 => ?_)) | ((with_reducible show eV _ _ _ (Value.int (nI _) :: _) _ _ _ _); refine ev_icmp_geZN (tgt := 61) dX1_countNames_28 (by decide) (by first | exact hB _ _ | omega) (fun c_28 => ?_) (fun c_28 => ?_)) | ((with_reducible show eV _ _ _ (_ :: Value.int (nI _) :: _) _ _ _ _); refine ev_icmp_geNZ (tgt := 61) dX1_countNames_28 (by decide) (by first | exact hB _ _ | omega) (fun c_28 => ?_) (fun c_28 => ?_)) | (refine ev_icmp_geZZ (tgt := 61) dX1_countNames_28 (by decide) (fun c_28 => ?_) (fun c_28 => ?_))
        · exact ev_vret dX1_countNames_61 rfl rfl (by have e : k = σ 0 1 := (by omega); exact ⟨by unfold sHav; rw [← e]; exact hW2, FR⟩) (fun _ e => Option.some.inj e) (Nat.le_of_ble_eq_true rfl) (Nat.le_of_ble_eq_true rfl)
        · refine ev_aload_n dX1_countNames_31 rfl rfl ?_
          refine ev_iload_n dX1_countNames_32 rfl rfl ?_
          refine ev_callVi dX1_countNames_33 (c_X2_isAlive (by first | assumption | omega | exact eSe.ob (by assumption) | exact eNm.ob (by assumption)) (by first | assumption | omega | exact eSe.ob (by assumption) | exact eNm.ob (by assumption)) (by first | assumption | omega | exact eSe.ob (by assumption) | exact eNm.ob (by assumption))) rfl lk_X1_61 (by first | assumption | omega | exact eSe.ob (by assumption) | exact eNm.ob (by assumption)) ⟨Nat.le_of_ble_eq_true rfl, Nat.le_of_ble_eq_true rfl⟩ rfl (Nat.le_of_ble_eq_true rfl) ⟨Nat.le_of_ble_eq_true rfl, Nat.le_of_ble_eq_true rfl⟩ (eRo ?_)
          first | ((with_reducible show eV _ _ _ (Value.int (bI _) :: _) _ _ _ _); refine ev_if_eqB (tgt := 55) dX1_countNames_36 (by decide) (fun c_36 => ?_) (fun c_36 => ?_)) | ((with_reducible show eV _ _ _ (Value.int (nI _) :: _) _ _ _ _); refine ev_if_eqN (tgt := 55) dX1_countNames_36 (by decide) (by first | exact hB _ _ | omega) (fun c_36 => ?_) (fun c_36 => ?_)) | (refine ev_if_eqZ (tgt := 55) dX1_countNames_36 (by decide) (fun c_36 => ?_) (fun c_36 => ?_))
          · first | refine ev_iincN dX1_countNames_55 rfl (Nat.le_of_ble_eq_true rfl) ?_ | refine ev_iinc dX1_countNames_55 rfl rfl (Nat.le_of_ble_eq_true rfl) ?_
            refine ev_goto (tgt := 23) dX1_countNames_58 (by decide) ?_
            exact (ih_23 _ (by omega) (k + 1) _ rfl (by first | omega | assumption | rfl) (by first | (rw [sHavTo, if_pos c_36]; exact hW2) | (rw [sHavTo, if_neg (by rw [c_36]; decide)]; exact hW2)) (by first | omega | assumption | rfl) (by first | omega | assumption | rfl)).sub1 ⟨rfl, rfl, rfl, trivial⟩ rfl
          · have hw := hO.2.2.2.1 k (by omega)
            refine ev_aload_n dX1_countNames_39 rfl rfl ?_
            refine ev_aload_n dX1_countNames_40 rfl rfl ?_
            refine ev_getfield dX1_countNames_41 fl_X1_65 (by first | assumption | omega | exact eSe.ob (by assumption) | exact eNm.ob (by assumption)) rfl ?_
            refine ev_iload_n dX1_countNames_44 rfl rfl ?_
            refine ev_ialoadA dX1_countNames_45 (by first | assumption | omega | exact eSe.ob (by assumption) | exact eNm.ob (by assumption)) (by first | assumption | omega | exact eSe.ob (by assumption) | exact eNm.ob (by assumption)) ?_
            refine ev_aload_n dX1_countNames_46 rfl rfl ?_
            refine ev_getfield dX1_countNames_47 fl_X1_68 (by first | assumption | omega | exact eSe.ob (by assumption) | exact eNm.ob (by assumption)) rfl ?_
            refine ev_iload_n dX1_countNames_50 rfl rfl ?_
            refine ev_ialoadA dX1_countNames_51 (by first | assumption | omega | exact eSe.ob (by assumption) | exact eNm.ob (by assumption)) (by first | assumption | omega | exact eSe.ob (by assumption) | exact eNm.ob (by assumption)) ?_
            refine ev_callVv dX1_countNames_52 (c_X1_countLetters hW2 ⟨hw.2.2.1, hw.2.2.2.1⟩ (hB _ _)) rfl lk_X1_71 (by first | assumption | omega | exact eSe.ob (by assumption) | exact eNm.ob (by assumption)) ⟨Nat.le_of_ble_eq_true rfl, Nat.le_of_ble_eq_true rfl⟩ rfl (Nat.le_of_ble_eq_true rfl) ⟨Nat.le_of_ble_eq_true rfl, Nat.le_of_ble_eq_true rfl⟩ (fun g_52 hg_52 => ?_)
            obtain ⟨w_52, fr_52⟩ := hg_52
            replace hW2 := w_52
            first | replace hN := eArr.fr hN (fr_52 _ (by omega)) | replace hN := Eq.trans (fr_52 _ (by omega)) hN | replace hN := eBo.fr hN (fr_52 _ (by omega)) | replace hN := z_52 hN | replace hN := z_52 | replace hN := ePp.fr1 hN (fun a _ _ => fr_52 a (by omega)) | replace hN := eNm.fr1 hN (fun a _ _ => fr_52 a (by omega)) | replace hN := eRg.fr hN (fun a _ _ => fr_52 a (by omega)) | replace hN := eTx.fr hN (fun a _ _ => fr_52 a (by omega)) | replace hN := ePa.fr hN (fun a _ _ => fr_52 a (by omega)) | replace hN := eRf.fr hN (fr_52 _ (by omega))
            first | replace FR := eFr.trans FR (eFr.one fr_52 (by omega) (by omega)) | replace FR := eFr.trans FR (eFr.wide fr_52 (by omega) (by omega))
            first | refine ev_iincN dX1_countNames_55 rfl (Nat.le_of_ble_eq_true rfl) ?_ | refine ev_iinc dX1_countNames_55 rfl rfl (Nat.le_of_ble_eq_true rfl) ?_
            refine ev_goto (tgt := 23) dX1_countNames_58 (by decide) ?_
            exact (ih_23 _ (by omega) (k + 1) _ rfl (by first | omega | assumption | rfl) (by first | (rw [sHavTo, if_pos c_36]; exact hW2) | (rw [sHavTo, if_neg (by rw [c_36]; decide)]; exact hW2)) (by first | omega | assumption | rfl) (by first | omega | assumption | rfl)).sub1 ⟨rfl, rfl, rfl, trivial⟩ rfl
      exact (H_23 _ 0 g rfl (by first | omega | assumption | rfl) (by exact ⟨t0, t2⟩) (by first | omega | assumption | rfl) (by first | omega | assumption | rfl)).sub1 ⟨rfl, rfl, rfl, trivial⟩ rfl
    · refine ev_aload_n dX1_countNames_8 rfl rfl ?_
      refine ev_getfield dX1_countNames_9 fl_X1_9 (by first | assumption | omega | exact eSe.ob (by assumption) | exact eNm.ob (by assumption)) rfl ?_
      refine ev_iload_n dX1_countNames_12 rfl rfl ?_
      refine ev_iconst (v := nI 0) dX1_countNames_13 rfl ?_
      refine ev_iastoreA dX1_countNames_14 (by first | assumption | omega | exact eSe.ob (by assumption) | exact eNm.ob (by assumption)) (by first | assumption | omega | exact eSe.ob (by assumption) | exact eNm.ob (by assumption)) (fun g_14 fr_14 w_14 => ?_)
      first | replace t0 := eArr.fr t0 (fr_14 _ (by omega)) | replace t0 := Eq.trans (fr_14 _ (by omega)) t0 | replace t0 := eBo.fr t0 (fr_14 _ (by omega)) | replace t0 := z_14 t0 | replace t0 := z_14 | replace t0 := ePp.fr1 t0 (fun a _ _ => fr_14 a (by omega)) | replace t0 := eNm.fr1 t0 (fun a _ _ => fr_14 a (by omega)) | replace t0 := eRg.fr t0 (fun a _ _ => fr_14 a (by omega)) | replace t0 := eTx.fr t0 (fun a _ _ => fr_14 a (by omega)) | replace t0 := ePa.fr t0 (fun a _ _ => fr_14 a (by omega)) | replace t0 := eRf.fr t0 (fr_14 _ (by omega))
      replace t1 := w_14 _ (Or.inl (Nat.le_refl _))
      first | replace hN := eArr.fr hN (fr_14 _ (by omega)) | replace hN := Eq.trans (fr_14 _ (by omega)) hN | replace hN := eBo.fr hN (fr_14 _ (by omega)) | replace hN := z_14 hN | replace hN := z_14 | replace hN := ePp.fr1 hN (fun a _ _ => fr_14 a (by omega)) | replace hN := eNm.fr1 hN (fun a _ _ => fr_14 a (by omega)) | replace hN := eRg.fr hN (fun a _ _ => fr_14 a (by omega)) | replace hN := eTx.fr hN (fun a _ _ => fr_14 a (by omega)) | replace hN := ePa.fr hN (fun a _ _ => fr_14 a (by omega)) | replace hN := eRf.fr hN (fr_14 _ (by omega))
      first | replace FR := eFr.trans FR (eFr.one fr_14 (by omega) (by omega)) | replace FR := eFr.trans FR (eFr.wide fr_14 (by omega) (by omega))
      first | refine ev_iincN dX1_countNames_15 rfl (Nat.le_of_ble_eq_true rfl) ?_ | refine ev_iinc dX1_countNames_15 rfl rfl (Nat.le_of_ble_eq_true rfl) ?_
      refine ev_goto (tgt := 2) dX1_countNames_18 (by decide) ?_
      exact (ih_2 _ (by omega) (i + 1) _ rfl (by first | omega | assumption | rfl) (by first | omega | assumption | rfl) (by exact t1.congr (fun a _ => by by_cases z : a = i <;> by_cases z2 : a < i <;> first | omega | (simp only [z, if_true]; rw [if_pos (by omega)]) | (rw [if_neg z, if_pos z2, if_pos (by omega)]) | (rw [if_neg z, if_neg z2, if_neg (by omega)]))) (by first | omega | assumption | rfl) (by first | omega | assumption | rfl)).sub1 ⟨rfl, rfl, rfl, trivial⟩ rfl
  exact (H_2 _ 0 h rfl (by first | omega | assumption | rfl) (by exact hW.1) (by exact hW.2.congr (fun a _ => rfl)) (by first | omega | assumption | rfl) (by exact eFr.rf)).sub1 ⟨rfl, rfl, rfl, trivial⟩ rfl
set_option maxHeartbeats 4000000 in
set_option maxRecDepth 20000 in
theorem c_X1_namesWithLettersOf {h : eH} {n q m c : Nat} {wt : Nat → Nat} (hW : eSe h q wt) (hm : 1 ≤ m ∧ m ≤ 4) (hc : c < 2 ^ 31) : kX1_namesWithLettersOf [.ref q, .int (nI m), .int (nI c)] h n (.inl (some (.int (nI (sWith wt m c)))), (· = h), some n) 0 0 := by
  refine eM.of RX1 "namesWithLettersOf" [(0, .ref q), (1, .int (nI m)), (2, .int (nI c))] pn_X1 rfl rfl (Nat.le_of_ble_eq_true rfl) rfl ?_
  obtain ⟨t0, t1⟩ := id hW
  refine ev_iconst (v := nI 0) dX1_namesWithLettersOf_0 rfl ?_
  refine ev_istore_n dX1_namesWithLettersOf_1 rfl (Nat.le_of_ble_eq_true rfl) ?_
  refine ev_iconst (v := nI 0) dX1_namesWithLettersOf_2 rfl ?_
  refine ev_istore dX1_namesWithLettersOf_3 (Nat.le_of_ble_eq_true rfl) ?_
  have H_5 : ∀ (d_5 : Nat) (j : Nat), d_5 = m - j → (j ≤ m) → eV mX1_namesWithLettersOf 5 [(0, .ref q), (1, .int (nI m)), (2, .int (nI c)), (3, .int (nI (sSum (fun i => wt (sLet m c i)) j))), (4, .int (nI j))] [] (h, n, 0, 0) (.inl (some (.int (nI (sWith wt m c)))), (· = h), some n) 0 0 := by
    intro d_5
    induction d_5 using Nat.strongRecOn with
    | _ d_5 ih_5 =>
    intro j hd_5 hj
    refine ev_iload dX1_namesWithLettersOf_5 rfl ?_
    refine ev_iload_n dX1_namesWithLettersOf_7 rfl rfl ?_
    first | ((with_reducible show eV _ _ _ (Value.int (nI _) :: Value.int (nI _) :: _) _ _ _ _); refine ev_icmp_geN (tgt := 32) dX1_namesWithLettersOf_8 (by decide) (by first | exact hB _ _ | omega) (by first | exact hB _ _ | omega) (fun c_8 => ?_) (fun c_8 => ?_)) | ((with_reducible show eV _ _ _ (Value.int (nI _) :: _) _ _ _ _); refine ev_icmp_geZN (tgt := 32) dX1_namesWithLettersOf_8 (by decide) (by first | exact hB _ _ | omega) (fun c_8 => ?_) (fun c_8 => ?_)) | ((with_reducible show eV _ _ _ (_ :: Value.int (nI _) :: _) _ _ _ _); refine ev_icmp_geNZ (tgt := 32) dX1_namesWithLettersOf_8 (by decide) (by first | exact hB _ _ | omega) (fun c_8 => ?_) (fun c_8 => ?_)) | (refine ev_icmp_geZZ (tgt := 32) dX1_namesWithLettersOf_8 (by decide) (fun c_8 => ?_) (fun c_8 => ?_))
    · refine ev_iload_n dX1_namesWithLettersOf_32 rfl rfl ?_
      exact ev_iret dX1_namesWithLettersOf_33 rfl rfl (by exact nR (by have e : j = m := (by omega); rw [sWith, ← e])) (by rfl) (fun _ e => Option.some.inj e) (Nat.le_of_ble_eq_true rfl) (Nat.le_of_ble_eq_true rfl)
    · refine ev_iload_n dX1_namesWithLettersOf_11 rfl rfl ?_
      refine ev_aload_n dX1_namesWithLettersOf_12 rfl rfl ?_
      refine ev_getfield dX1_namesWithLettersOf_13 fl_X1_9 (by first | assumption | omega | exact sLet_lt _ _ _) rfl ?_
      refine ev_iload_n dX1_namesWithLettersOf_16 rfl rfl ?_
      refine ev_iload_n dX1_namesWithLettersOf_17 rfl rfl ?_
      refine ev_iload dX1_namesWithLettersOf_18 rfl ?_
      refine ev_callSi dX1_namesWithLettersOf_20 (c_X0_at (by first | assumption | omega | exact sLet_lt _ _ _) (by first | assumption | omega | exact sLet_lt _ _ _) (by first | assumption | omega | exact sLet_lt _ _ _)) lk_X1_79 ⟨Nat.le_of_ble_eq_true rfl, Nat.le_of_ble_eq_true rfl⟩ rfl (Nat.le_of_ble_eq_true rfl) ⟨Nat.le_of_ble_eq_true rfl, Nat.le_of_ble_eq_true rfl⟩ (eRo ?_)
      refine ev_ialoadA dX1_namesWithLettersOf_23 (by first | assumption | omega | exact sLet_lt _ _ _) (by first | assumption | omega | exact sLet_lt _ _ _) ?_
      first | refine ev_iaddN dX1_namesWithLettersOf_24 ?_ | refine ev_iadd dX1_namesWithLettersOf_24 ?_
      refine ev_istore_n dX1_namesWithLettersOf_25 rfl (Nat.le_of_ble_eq_true rfl) ?_
      first | refine ev_iincN dX1_namesWithLettersOf_26 rfl (Nat.le_of_ble_eq_true rfl) ?_ | refine ev_iinc dX1_namesWithLettersOf_26 rfl rfl (Nat.le_of_ble_eq_true rfl) ?_
      refine ev_goto (tgt := 5) dX1_namesWithLettersOf_29 (by decide) ?_
      exact (ih_5 _ (by omega) _  rfl (by first | omega | assumption | rfl)).sub1 ⟨rfl, rfl, rfl, rfl, rfl, trivial⟩ rfl
  exact (H_5 _ 0 rfl (by first | omega | assumption | rfl)).sub1 ⟨rfl, rfl, rfl, rfl, rfl, trivial⟩ rfl
theorem sWith_le (σ : St) {m c : Nat} (hz : σ 0 1 ≤ 40) : sWith (sHav σ) m c ≤ m * 40 := sSum_le (fun i => Nat.le_trans (sHavTo_le σ _ _) hz) m
theorem sBestTo_lt {σ : St} {p m : Nat} : ∀ {k b : Nat}, (sBestTo σ p m k).1 = some b → b < k
  | 0, b, h => by cases h
  | k + 1, b, h => by
    rw [sBestTo] at h
    split at h
    · cases h; exact Nat.lt_succ_self k
    · exact Nat.lt_succ_of_lt (sBestTo_lt h)
theorem sBestTo_le {σ : St} {p m : Nat} (hz : σ 0 1 ≤ 40) : ∀ k, (sBestTo σ p m k).2 ≤ m * 40
  | 0 => Nat.zero_le _
  | k + 1 => by
    rw [sBestTo]
    split
    · exact sWith_le σ hz
    · exact sBestTo_le hz k
theorem sBest_new {σ : St} {p m k f : Nat} {o : Option Nat} (h : sBestTo σ p m k = (o, f)) (h1 : o = none ∨ sWith (sHav σ) m k < f) (h2 : (sNameOn σ (σ 3 p) none m k).isSome = false) : sBestTo σ p m (k + 1) = (some k, sWith (sHav σ) m k) := by
  rw [sBestTo, h]; exact if_pos ⟨h1, h2⟩
theorem sBest_old {σ : St} {p m k f : Nat} {o : Option Nat} (h : sBestTo σ p m k = (o, f)) (h1 : (o ≠ none ∧ f ≤ sWith (sHav σ) m k) ∨ (sNameOn σ (σ 3 p) none m k).isSome = true) : sBestTo σ p m (k + 1) = (o, f) := by
  rw [sBestTo, h]
  refine if_neg (fun z => ?_)
  rcases h1 with ⟨a, b⟩ | c
  · rcases z.1 with d | d
    · exact a d
    · have d : sWith (sHav σ) m k < f := d
      omega
  · rw [c] at z; exact absurd z.2 (by decide)
theorem sWhyAny_3 (σ : St) (g p : Nat) : sWhyAny σ g p ≤ 3 := by
  unfold sWhyAny
  split
  · omega
  split
  · omega
  split <;> omega
set_option maxHeartbeats 4000000 in
set_option maxRecDepth 20000 in
theorem c_X1_bestCode {h : eH} {n q r g0 p m : Nat} {σ : St} {wt : Nat → Nat} (hW : eSe h q wt) (hR : eRg h r σ) (hO : eOK σ) (hg : g0 < σ 0 0) (hp : p < σ 0 0) (hm : 1 ≤ m ∧ m ≤ 2) (hd : q + 2 ≤ r ∨ r + 17 ≤ q) : kX1_bestCode [.ref q, .ref r, .int (nI g0), .int (nI p), .int (nI m)] h n (.inl (some (.int (oI (sBest σ g0 p m)))), (fun g => (∃ wt', eSe g q wt') ∧ eFr h g q (q + 2)), some n) 0 0 := by
  refine eM.of RX1 "bestCode" [(0, .ref q), (1, .ref r), (2, .int (nI g0)), (3, .int (nI p)), (4, .int (nI m))] pn_X1 rfl rfl (Nat.le_of_ble_eq_true rfl) rfl ?_
  have hB : eB σ := hO.1
  have hz := hO.2.1
  have hz2 := hO.2.2.1
  have FR : eFr h h q (q + 2) := eFr.rf
  obtain ⟨r0, hP, hN, hS⟩ := id hR
  obtain ⟨p0, p1, p2, p3, p4, p5⟩ := id hP
  have h26 : 26 ^ m ≤ 676 := Nat.le_trans (Nat.pow_le_pow_right (by decide) hm.2) (by decide)
  refine ev_aload_n dX1_bestCode_0 rfl rfl ?_
  refine ev_iload_n dX1_bestCode_1 rfl rfl ?_
  refine ev_iload_n dX1_bestCode_2 rfl rfl ?_
  refine ev_callVi dX1_bestCode_3 (c_X5_reasonAgainstAnyName hR hO hg hp) rfl lk_X1_15 (by first | assumption | omega | exact eSe.ob (by assumption) | exact eRg.ob (by assumption) | exact eNm.ob (by assumption)) ⟨Nat.le_of_ble_eq_true rfl, Nat.le_of_ble_eq_true rfl⟩ rfl (Nat.le_of_ble_eq_true rfl) ⟨Nat.le_of_ble_eq_true rfl, Nat.le_of_ble_eq_true rfl⟩ (eRo ?_)
  first | ((with_reducible show eV _ _ _ (Value.int (bI _) :: _) _ _ _ _); refine ev_if_neB (tgt := 19) dX1_bestCode_6 (by decide) (fun c_6 => ?_) (fun c_6 => ?_)) | ((with_reducible show eV _ _ _ (Value.int (nI _) :: _) _ _ _ _); refine ev_if_neN (tgt := 19) dX1_bestCode_6 (by decide) (by first | exact hB _ _ | omega | exact Nat.lt_of_le_of_lt (sWhyAny_3 _ _ _) (by decide) | (have := sWith_le σ (m := m) (c := k) hz2; omega)) (fun c_6 => ?_) (fun c_6 => ?_)) | (refine ev_if_neZ (tgt := 19) dX1_bestCode_6 (by decide) (fun c_6 => ?_) (fun c_6 => ?_))
  · refine ev_iconst (v := -1) dX1_bestCode_19 (by decide) ?_
    exact ev_iret dX1_bestCode_20 rfl rfl (by first | exact oRn (if_pos (Or.inl c_6)) | exact oRn (if_pos (Or.inr (of_decide_eq_true c_16)))) (by exact ⟨⟨_, hW⟩, FR⟩) (fun _ e => Option.some.inj e) (Nat.le_of_ble_eq_true rfl) (Nat.le_of_ble_eq_true rfl)
  · refine ev_aload_n dX1_bestCode_9 rfl rfl ?_
    refine ev_getfield dX1_bestCode_10 fl_X1_21 (by first | assumption | omega | exact eSe.ob (by assumption) | exact eRg.ob (by assumption) | exact eNm.ob (by assumption)) rfl ?_
    refine ev_callVi dX1_bestCode_13 (c_X2_isFull (by first | assumption | omega | exact eSe.ob (by assumption) | exact eRg.ob (by assumption) | exact eNm.ob (by assumption)) (by first | assumption | omega | exact eSe.ob (by assumption) | exact eRg.ob (by assumption) | exact eNm.ob (by assumption))) rfl lk_X1_25 (by first | assumption | omega | exact eSe.ob (by assumption) | exact eRg.ob (by assumption) | exact eNm.ob (by assumption)) ⟨Nat.le_of_ble_eq_true rfl, Nat.le_of_ble_eq_true rfl⟩ rfl (Nat.le_of_ble_eq_true rfl) ⟨Nat.le_of_ble_eq_true rfl, Nat.le_of_ble_eq_true rfl⟩ (eRo ?_)
    first | ((with_reducible show eV _ _ _ (Value.int (bI _) :: _) _ _ _ _); refine ev_if_eqB (tgt := 21) dX1_bestCode_16 (by decide) (fun c_16 => ?_) (fun c_16 => ?_)) | ((with_reducible show eV _ _ _ (Value.int (nI _) :: _) _ _ _ _); refine ev_if_eqN (tgt := 21) dX1_bestCode_16 (by decide) (by first | exact hB _ _ | omega | exact Nat.lt_of_le_of_lt (sWhyAny_3 _ _ _) (by decide) | (have := sWith_le σ (m := m) (c := k) hz2; omega)) (fun c_16 => ?_) (fun c_16 => ?_)) | (refine ev_if_eqZ (tgt := 21) dX1_bestCode_16 (by decide) (fun c_16 => ?_) (fun c_16 => ?_))
    · have hno : ¬ (sWhyAny σ g0 p ≠ 0 ∨ 40 ≤ σ 0 1) := fun z => z.elim (fun z => z c_6) (of_decide_eq_false c_16)
      refine ev_aload_n dX1_bestCode_21 rfl rfl ?_
      refine ev_getfield dX1_bestCode_22 fl_X1_31 (by first | assumption | omega | exact eSe.ob (by assumption) | exact eRg.ob (by assumption) | exact eNm.ob (by assumption)) rfl ?_
      refine ev_getfield dX1_bestCode_25 fl_X1_35 (by first | assumption | omega | exact eSe.ob (by assumption) | exact eRg.ob (by assumption) | exact eNm.ob (by assumption)) rfl ?_
      refine ev_iload_n dX1_bestCode_28 rfl rfl ?_
      refine ev_ialoadA dX1_bestCode_29 (by first | assumption | omega | exact eSe.ob (by assumption) | exact eRg.ob (by assumption) | exact eNm.ob (by assumption)) (by first | assumption | omega | exact eSe.ob (by assumption) | exact eRg.ob (by assumption) | exact eNm.ob (by assumption)) ?_
      refine ev_istore dX1_bestCode_30 (Nat.le_of_ble_eq_true rfl) ?_
      refine ev_aload_n dX1_bestCode_32 rfl rfl ?_
      refine ev_aload_n dX1_bestCode_33 rfl rfl ?_
      refine ev_getfield dX1_bestCode_34 fl_X1_21 (by first | assumption | omega | exact eSe.ob (by assumption) | exact eRg.ob (by assumption) | exact eNm.ob (by assumption)) rfl ?_
      refine ev_callVv dX1_bestCode_37 (c_X1_countNames hW hN hO (by omega)) rfl lk_X1_40 (by first | assumption | omega | exact eSe.ob (by assumption) | exact eRg.ob (by assumption) | exact eNm.ob (by assumption)) ⟨Nat.le_of_ble_eq_true rfl, Nat.le_of_ble_eq_true rfl⟩ rfl (Nat.le_of_ble_eq_true rfl) ⟨Nat.le_of_ble_eq_true rfl, Nat.le_of_ble_eq_true rfl⟩ (fun g_37 hg_37 => ?_)
      obtain ⟨w_37, fr_37⟩ := hg_37
      replace hW := w_37
      first | replace hR := eArr.fr hR (fr_37 _ (by omega)) | replace hR := Eq.trans (fr_37 _ (by omega)) hR | replace hR := eBo.fr hR (fr_37 _ (by omega)) | replace hR := z_37 hR | replace hR := z_37 | replace hR := ePp.fr1 hR (fun a _ _ => fr_37 a (by omega)) | replace hR := eNm.fr1 hR (fun a _ _ => fr_37 a (by omega)) | replace hR := eRg.fr hR (fun a _ _ => fr_37 a (by omega)) | replace hR := eTx.fr hR (fun a _ _ => fr_37 a (by omega)) | replace hR := ePa.fr hR (fun a _ _ => fr_37 a (by omega)) | replace hR := eRf.fr hR (fr_37 _ (by omega))
      first | replace FR := eFr.trans FR (eFr.one fr_37 (by omega) (by omega)) | replace FR := eFr.trans FR (eFr.wide fr_37 (by omega) (by omega))
      refine ev_iconst (v := -1) dX1_bestCode_40 (by decide) ?_
      refine ev_istore dX1_bestCode_41 (Nat.le_of_ble_eq_true rfl) ?_
      refine ev_iconst (v := nI 0) dX1_bestCode_43 rfl ?_
      refine ev_istore dX1_bestCode_44 (Nat.le_of_ble_eq_true rfl) ?_
      refine ev_iconst (v := nI 0) dX1_bestCode_46 rfl ?_
      refine ev_istore dX1_bestCode_47 (Nat.le_of_ble_eq_true rfl) ?_
      have H_49 : ∀ (d_49 : Nat) (k f : Nat) (o : Option Nat), d_49 = 26 ^ m - k → (k ≤ 26 ^ m) → (sBestTo σ p m k = (o, f)) → eV mX1_bestCode 49 [(0, .ref q), (1, .ref r), (2, .int (nI g0)), (3, .int (nI p)), (4, .int (nI m)), (5, .int (nI (σ 3 p))), (6, .int (oI o)), (7, .int (nI f)), (8, .int (nI k))] [] (g_37, n, 0, 0) (.inl (some (.int (oI (sBest σ g0 p m)))), (fun g => (∃ wt', eSe g q wt') ∧ eFr h g q (q + 2)), some n) 0 0 := by
        intro d_49
        induction d_49 using Nat.strongRecOn with
        | _ d_49 ih_49 =>
        intro k f o hd_49 hk hb
        have hfb : f ≤ m * 40 := by have := sBestTo_le (p := p) (m := m) hz2 k; rw [hb] at this; exact this
        refine ev_iload dX1_bestCode_49 rfl ?_
        refine ev_iload dX1_bestCode_51 rfl ?_
        refine ev_callSi dX1_bestCode_53 (c_X0_codes (by omega)) lk_X1_44 ⟨Nat.le_of_ble_eq_true rfl, Nat.le_of_ble_eq_true rfl⟩ rfl (Nat.le_of_ble_eq_true rfl) ⟨Nat.le_of_ble_eq_true rfl, Nat.le_of_ble_eq_true rfl⟩ (eRo ?_)
        first | ((with_reducible show eV _ _ _ (Value.int (nI _) :: Value.int (nI _) :: _) _ _ _ _); refine ev_icmp_geN (tgt := 110) dX1_bestCode_56 (by decide) (by first | exact hB _ _ | omega | exact Nat.lt_of_le_of_lt (sWhyAny_3 _ _ _) (by decide) | (have := sWith_le σ (m := m) (c := k) hz2; omega)) (by first | exact hB _ _ | omega | exact Nat.lt_of_le_of_lt (sWhyAny_3 _ _ _) (by decide) | (have := sWith_le σ (m := m) (c := k) hz2; omega)) (fun c_56 => ?_) (fun c_56 => ?_)) | ((with_reducible show eV _ _ _ (Value.int (nI _) :: _) _ _ _ _); refine ev_icmp_geZN (tgt := 110) dX1_bestCode_56 (by decide) (by first | exact hB _ _ | omega | exact Nat.lt_of_le_of_lt (sWhyAny_3 _ _ _) (by decide) | (have := sWith_le σ (m := m) (c := k) hz2; omega)) (fun c_56 => ?_) (fun c_56 => ?_)) | ((with_reducible show eV _ _ _ (_ :: Value.int (nI _) :: _) _ _ _ _); refine ev_icmp_geNZ (tgt := 110) dX1_bestCode_56 (by decide) (by first | exact hB _ _ | omega | exact Nat.lt_of_le_of_lt (sWhyAny_3 _ _ _) (by decide) | (have := sWith_le σ (m := m) (c := k) hz2; omega)) (fun c_56 => ?_) (fun c_56 => ?_)) | (refine ev_icmp_geZZ (tgt := 110) dX1_bestCode_56 (by decide) (fun c_56 => ?_) (fun c_56 => ?_))
        · refine ev_iload dX1_bestCode_110 rfl ?_
          exact ev_iret dX1_bestCode_112 rfl rfl (by exact congrArg (fun o => Sum.inl (some (Value.int (oI o)))) (by have e : k = 26 ^ m := (by omega); unfold sBest; rw [if_neg hno, ← e, hb])) (by exact ⟨⟨_, hW⟩, FR⟩) (fun _ e => Option.some.inj e) (Nat.le_of_ble_eq_true rfl) (Nat.le_of_ble_eq_true rfl)
        · refine ev_aload_n dX1_bestCode_59 rfl rfl ?_
          refine ev_iload dX1_bestCode_60 rfl ?_
          refine ev_iload dX1_bestCode_62 rfl ?_
          refine ev_callVi dX1_bestCode_64 (c_X1_namesWithLettersOf hW ⟨hm.1, by omega⟩ (by omega)) rfl lk_X1_50 (by first | assumption | omega | exact eSe.ob (by assumption) | exact eRg.ob (by assumption) | exact eNm.ob (by assumption)) ⟨Nat.le_of_ble_eq_true rfl, Nat.le_of_ble_eq_true rfl⟩ rfl (Nat.le_of_ble_eq_true rfl) ⟨Nat.le_of_ble_eq_true rfl, Nat.le_of_ble_eq_true rfl⟩ (eRo ?_)
          refine ev_istore dX1_bestCode_67 (Nat.le_of_ble_eq_true rfl) ?_
          refine ev_iload dX1_bestCode_69 rfl ?_
          refine ev_iconst (v := -1) dX1_bestCode_71 (by decide) ?_
          first | ((with_reducible show eV _ _ _ (Value.int (nI _) :: Value.int (nI _) :: _) _ _ _ _); refine ev_icmp_eqN (tgt := 82) dX1_bestCode_72 (by decide) (by first | exact hB _ _ | omega | exact Nat.lt_of_le_of_lt (sWhyAny_3 _ _ _) (by decide) | (have := sWith_le σ (m := m) (c := k) hz2; omega)) (by first | exact hB _ _ | omega | exact Nat.lt_of_le_of_lt (sWhyAny_3 _ _ _) (by decide) | (have := sWith_le σ (m := m) (c := k) hz2; omega)) (fun c_72 => ?_) (fun c_72 => ?_)) | ((with_reducible show eV _ _ _ (Value.int (-1) :: Value.int (oI _) :: _) _ _ _ _); refine ev_icmp_eqO (tgt := 82) dX1_bestCode_72 (by decide) (by first | assumption | (intro k9 h9; have := sBestTo_lt (congrArg Prod.fst hb |>.trans h9); omega)) (fun c_72 => ?_) (fun c_72 => ?_)) | ((with_reducible show eV _ _ _ (Value.int (oI _) :: Value.int (nI _) :: _) _ _ _ _); refine ev_icmp_eqNO (tgt := 82) dX1_bestCode_72 (by decide) (by first | exact hB _ _ | omega | exact Nat.lt_of_le_of_lt (sWhyAny_3 _ _ _) (by decide) | (have := sWith_le σ (m := m) (c := k) hz2; omega)) (by first | assumption | (intro k9 h9; have := sBestTo_lt (congrArg Prod.fst hb |>.trans h9); omega)) (fun c_72 => ?_) (fun c_72 => ?_)) | ((with_reducible show eV _ _ _ (Value.int (nI _) :: Value.int (oI _) :: _) _ _ _ _); refine ev_icmp_eqON (tgt := 82) dX1_bestCode_72 (by decide) (by first | exact hB _ _ | omega | exact Nat.lt_of_le_of_lt (sWhyAny_3 _ _ _) (by decide) | (have := sWith_le σ (m := m) (c := k) hz2; omega)) (by first | assumption | (intro k9 h9; have := sBestTo_lt (congrArg Prod.fst hb |>.trans h9); omega)) (fun c_72 => ?_) (fun c_72 => ?_)) | ((with_reducible show eV _ _ _ (Value.int (nI _) :: _) _ _ _ _); refine ev_icmp_eqZN (tgt := 82) dX1_bestCode_72 (by decide) (by first | exact hB _ _ | omega | exact Nat.lt_of_le_of_lt (sWhyAny_3 _ _ _) (by decide) | (have := sWith_le σ (m := m) (c := k) hz2; omega)) (fun c_72 => ?_) (fun c_72 => ?_)) | ((with_reducible show eV _ _ _ (_ :: Value.int (nI _) :: _) _ _ _ _); refine ev_icmp_eqNZ (tgt := 82) dX1_bestCode_72 (by decide) (by first | exact hB _ _ | omega | exact Nat.lt_of_le_of_lt (sWhyAny_3 _ _ _) (by decide) | (have := sWith_le σ (m := m) (c := k) hz2; omega)) (fun c_72 => ?_) (fun c_72 => ?_)) | (refine ev_icmp_eqZZ (tgt := 82) dX1_bestCode_72 (by decide) (fun c_72 => ?_) (fun c_72 => ?_))
          · refine ev_aload_n dX1_bestCode_82 rfl rfl ?_
            refine ev_iload dX1_bestCode_83 rfl ?_
            refine ev_iload dX1_bestCode_85 rfl ?_
            refine ev_iload dX1_bestCode_87 rfl ?_
            refine ev_iconst (v := -1) dX1_bestCode_89 (by decide) ?_
            refine ev_callVi dX1_bestCode_90 (c_X5_isTaken (ex := none) hR hO (hB _ _) (by omega) (by omega) (fun _ h9 => nomatch h9)) rfl lk_X1_53 (by first | assumption | omega | exact eSe.ob (by assumption) | exact eRg.ob (by assumption) | exact eNm.ob (by assumption)) ⟨Nat.le_of_ble_eq_true rfl, Nat.le_of_ble_eq_true rfl⟩ rfl (Nat.le_of_ble_eq_true rfl) ⟨Nat.le_of_ble_eq_true rfl, Nat.le_of_ble_eq_true rfl⟩ (eRo ?_)
            first | ((with_reducible show eV _ _ _ (Value.int (bI _) :: _) _ _ _ _); refine ev_if_neB (tgt := 104) dX1_bestCode_93 (by decide) (fun c_93 => ?_) (fun c_93 => ?_)) | ((with_reducible show eV _ _ _ (Value.int (nI _) :: _) _ _ _ _); refine ev_if_neN (tgt := 104) dX1_bestCode_93 (by decide) (by first | exact hB _ _ | omega | exact Nat.lt_of_le_of_lt (sWhyAny_3 _ _ _) (by decide) | (have := sWith_le σ (m := m) (c := k) hz2; omega)) (fun c_93 => ?_) (fun c_93 => ?_)) | (refine ev_if_neZ (tgt := 104) dX1_bestCode_93 (by decide) (fun c_93 => ?_) (fun c_93 => ?_))
            · first | refine ev_iincN dX1_bestCode_104 rfl (Nat.le_of_ble_eq_true rfl) ?_ | refine ev_iinc dX1_bestCode_104 rfl rfl (Nat.le_of_ble_eq_true rfl) ?_
              refine ev_goto (tgt := 49) dX1_bestCode_107 (by decide) ?_
              first | (exact (ih_49 _ (by omega) (k + 1) f o rfl (by first | omega | assumption | rfl) (by first | exact sBest_old hb (Or.inl ⟨c_72, c_79⟩) | exact sBest_old hb (Or.inr c_93) | exact sBest_new hb (Or.inl c_72) c_93 | exact sBest_new hb (Or.inr c_79) c_93)).sub1 ⟨rfl, rfl, rfl, rfl, rfl, rfl, rfl, rfl, rfl, trivial⟩ rfl) | (exact (ih_49 _ (by omega) (k + 1) (sWith (sHav σ) m k) (some k) rfl (by first | omega | assumption | rfl) (by first | exact sBest_old hb (Or.inl ⟨c_72, c_79⟩) | exact sBest_old hb (Or.inr c_93) | exact sBest_new hb (Or.inl c_72) c_93 | exact sBest_new hb (Or.inr c_79) c_93)).sub1 ⟨rfl, rfl, rfl, rfl, rfl, rfl, rfl, rfl, rfl, trivial⟩ rfl)
            · refine ev_iload dX1_bestCode_96 rfl ?_
              refine ev_istore dX1_bestCode_98 (Nat.le_of_ble_eq_true rfl) ?_
              refine ev_iload dX1_bestCode_100 rfl ?_
              refine ev_istore dX1_bestCode_102 (Nat.le_of_ble_eq_true rfl) ?_
              first | refine ev_iincN dX1_bestCode_104 rfl (Nat.le_of_ble_eq_true rfl) ?_ | refine ev_iinc dX1_bestCode_104 rfl rfl (Nat.le_of_ble_eq_true rfl) ?_
              refine ev_goto (tgt := 49) dX1_bestCode_107 (by decide) ?_
              first | (exact (ih_49 _ (by omega) (k + 1) f o rfl (by first | omega | assumption | rfl) (by first | exact sBest_old hb (Or.inl ⟨c_72, c_79⟩) | exact sBest_old hb (Or.inr c_93) | exact sBest_new hb (Or.inl c_72) c_93 | exact sBest_new hb (Or.inr c_79) c_93)).sub1 ⟨rfl, rfl, rfl, rfl, rfl, rfl, rfl, rfl, rfl, trivial⟩ rfl) | (exact (ih_49 _ (by omega) (k + 1) (sWith (sHav σ) m k) (some k) rfl (by first | omega | assumption | rfl) (by first | exact sBest_old hb (Or.inl ⟨c_72, c_79⟩) | exact sBest_old hb (Or.inr c_93) | exact sBest_new hb (Or.inl c_72) c_93 | exact sBest_new hb (Or.inr c_79) c_93)).sub1 ⟨rfl, rfl, rfl, rfl, rfl, rfl, rfl, rfl, rfl, trivial⟩ rfl)
          · refine ev_iload dX1_bestCode_75 rfl ?_
            refine ev_iload dX1_bestCode_77 rfl ?_
            first | ((with_reducible show eV _ _ _ (Value.int (nI _) :: Value.int (nI _) :: _) _ _ _ _); refine ev_icmp_geN (tgt := 104) dX1_bestCode_79 (by decide) (by first | exact hB _ _ | omega | exact Nat.lt_of_le_of_lt (sWhyAny_3 _ _ _) (by decide) | (have := sWith_le σ (m := m) (c := k) hz2; omega)) (by first | exact hB _ _ | omega | exact Nat.lt_of_le_of_lt (sWhyAny_3 _ _ _) (by decide) | (have := sWith_le σ (m := m) (c := k) hz2; omega)) (fun c_79 => ?_) (fun c_79 => ?_)) | ((with_reducible show eV _ _ _ (Value.int (nI _) :: _) _ _ _ _); refine ev_icmp_geZN (tgt := 104) dX1_bestCode_79 (by decide) (by first | exact hB _ _ | omega | exact Nat.lt_of_le_of_lt (sWhyAny_3 _ _ _) (by decide) | (have := sWith_le σ (m := m) (c := k) hz2; omega)) (fun c_79 => ?_) (fun c_79 => ?_)) | ((with_reducible show eV _ _ _ (_ :: Value.int (nI _) :: _) _ _ _ _); refine ev_icmp_geNZ (tgt := 104) dX1_bestCode_79 (by decide) (by first | exact hB _ _ | omega | exact Nat.lt_of_le_of_lt (sWhyAny_3 _ _ _) (by decide) | (have := sWith_le σ (m := m) (c := k) hz2; omega)) (fun c_79 => ?_) (fun c_79 => ?_)) | (refine ev_icmp_geZZ (tgt := 104) dX1_bestCode_79 (by decide) (fun c_79 => ?_) (fun c_79 => ?_))
            · first | refine ev_iincN dX1_bestCode_104 rfl (Nat.le_of_ble_eq_true rfl) ?_ | refine ev_iinc dX1_bestCode_104 rfl rfl (Nat.le_of_ble_eq_true rfl) ?_
              refine ev_goto (tgt := 49) dX1_bestCode_107 (by decide) ?_
              first | (exact (ih_49 _ (by omega) (k + 1) f o rfl (by first | omega | assumption | rfl) (by first | exact sBest_old hb (Or.inl ⟨c_72, c_79⟩) | exact sBest_old hb (Or.inr c_93) | exact sBest_new hb (Or.inl c_72) c_93 | exact sBest_new hb (Or.inr c_79) c_93)).sub1 ⟨rfl, rfl, rfl, rfl, rfl, rfl, rfl, rfl, rfl, trivial⟩ rfl) | (exact (ih_49 _ (by omega) (k + 1) (sWith (sHav σ) m k) (some k) rfl (by first | omega | assumption | rfl) (by first | exact sBest_old hb (Or.inl ⟨c_72, c_79⟩) | exact sBest_old hb (Or.inr c_93) | exact sBest_new hb (Or.inl c_72) c_93 | exact sBest_new hb (Or.inr c_79) c_93)).sub1 ⟨rfl, rfl, rfl, rfl, rfl, rfl, rfl, rfl, rfl, trivial⟩ rfl)
            · refine ev_aload_n dX1_bestCode_82 rfl rfl ?_
              refine ev_iload dX1_bestCode_83 rfl ?_
              refine ev_iload dX1_bestCode_85 rfl ?_
              refine ev_iload dX1_bestCode_87 rfl ?_
              refine ev_iconst (v := -1) dX1_bestCode_89 (by decide) ?_
              refine ev_callVi dX1_bestCode_90 (c_X5_isTaken (ex := none) hR hO (hB _ _) (by omega) (by omega) (fun _ h9 => nomatch h9)) rfl lk_X1_53 (by first | assumption | omega | exact eSe.ob (by assumption) | exact eRg.ob (by assumption) | exact eNm.ob (by assumption)) ⟨Nat.le_of_ble_eq_true rfl, Nat.le_of_ble_eq_true rfl⟩ rfl (Nat.le_of_ble_eq_true rfl) ⟨Nat.le_of_ble_eq_true rfl, Nat.le_of_ble_eq_true rfl⟩ (eRo ?_)
              first | ((with_reducible show eV _ _ _ (Value.int (bI _) :: _) _ _ _ _); refine ev_if_neB (tgt := 104) dX1_bestCode_93 (by decide) (fun c_93 => ?_) (fun c_93 => ?_)) | ((with_reducible show eV _ _ _ (Value.int (nI _) :: _) _ _ _ _); refine ev_if_neN (tgt := 104) dX1_bestCode_93 (by decide) (by first | exact hB _ _ | omega | exact Nat.lt_of_le_of_lt (sWhyAny_3 _ _ _) (by decide) | (have := sWith_le σ (m := m) (c := k) hz2; omega)) (fun c_93 => ?_) (fun c_93 => ?_)) | (refine ev_if_neZ (tgt := 104) dX1_bestCode_93 (by decide) (fun c_93 => ?_) (fun c_93 => ?_))
              · first | refine ev_iincN dX1_bestCode_104 rfl (Nat.le_of_ble_eq_true rfl) ?_ | refine ev_iinc dX1_bestCode_104 rfl rfl (Nat.le_of_ble_eq_true rfl) ?_
                refine ev_goto (tgt := 49) dX1_bestCode_107 (by decide) ?_
                first | (exact (ih_49 _ (by omega) (k + 1) f o rfl (by first | omega | assumption | rfl) (by first | exact sBest_old hb (Or.inl ⟨c_72, c_79⟩) | exact sBest_old hb (Or.inr c_93) | exact sBest_new hb (Or.inl c_72) c_93 | exact sBest_new hb (Or.inr c_79) c_93)).sub1 ⟨rfl, rfl, rfl, rfl, rfl, rfl, rfl, rfl, rfl, trivial⟩ rfl) | (exact (ih_49 _ (by omega) (k + 1) (sWith (sHav σ) m k) (some k) rfl (by first | omega | assumption | rfl) (by first | exact sBest_old hb (Or.inl ⟨c_72, c_79⟩) | exact sBest_old hb (Or.inr c_93) | exact sBest_new hb (Or.inl c_72) c_93 | exact sBest_new hb (Or.inr c_79) c_93)).sub1 ⟨rfl, rfl, rfl, rfl, rfl, rfl, rfl, rfl, rfl, trivial⟩ rfl)
              · refine ev_iload dX1_bestCode_96 rfl ?_
                refine ev_istore dX1_bestCode_98 (Nat.le_of_ble_eq_true rfl) ?_
                refine ev_iload dX1_bestCode_100 rfl ?_
                refine ev_istore dX1_bestCode_102 (Nat.le_of_ble_eq_true rfl) ?_
                first | refine ev_iincN dX1_bestCode_104 rfl (Nat.le_of_ble_eq_true rfl) ?_ | refine ev_iinc dX1_bestCode_104 rfl rfl (Nat.le_of_ble_eq_true rfl) ?_
                refine ev_goto (tgt := 49) dX1_bestCode_107 (by decide) ?_
                first | (exact (ih_49 _ (by omega) (k + 1) f o rfl (by first | omega | assumption | rfl) (by first | exact sBest_old hb (Or.inl ⟨c_72, c_79⟩) | exact sBest_old hb (Or.inr c_93) | exact sBest_new hb (Or.inl c_72) c_93 | exact sBest_new hb (Or.inr c_79) c_93)).sub1 ⟨rfl, rfl, rfl, rfl, rfl, rfl, rfl, rfl, rfl, trivial⟩ rfl) | (exact (ih_49 _ (by omega) (k + 1) (sWith (sHav σ) m k) (some k) rfl (by first | omega | assumption | rfl) (by first | exact sBest_old hb (Or.inl ⟨c_72, c_79⟩) | exact sBest_old hb (Or.inr c_93) | exact sBest_new hb (Or.inl c_72) c_93 | exact sBest_new hb (Or.inr c_79) c_93)).sub1 ⟨rfl, rfl, rfl, rfl, rfl, rfl, rfl, rfl, rfl, trivial⟩ rfl)
      exact (H_49 _ 0 0 none rfl (by exact Nat.zero_le _) (by first | omega | assumption | rfl)).sub1 ⟨rfl, rfl, rfl, rfl, rfl, rfl, rfl, rfl, rfl, trivial⟩ rfl
    · refine ev_iconst (v := -1) dX1_bestCode_19 (by decide) ?_
      exact ev_iret dX1_bestCode_20 rfl rfl (by first | exact oRn (if_pos (Or.inl c_6)) | exact oRn (if_pos (Or.inr (of_decide_eq_true c_16)))) (by exact ⟨⟨_, hW⟩, FR⟩) (fun _ e => Option.some.inj e) (Nat.le_of_ble_eq_true rfl) (Nat.le_of_ble_eq_true rfl)

