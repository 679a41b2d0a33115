theorem sGrow_0 (σ : St) : sGrow σ 0 = σ := by funext f j; unfold sGrow; rw [if_neg (by omega)]
theorem sGrow_su {σ : St} {p : Nat} : su (sGrow σ p) 1 p (sGrow σ p 1 p + 1) = sGrow σ (p + 1) := by
  funext f j
  by_cases z : f = 1 ∧ j = p
  · rw [z.1, z.2, su_same]
    unfold sGrow
    rw [if_neg (by omega), if_pos (by omega)]
  · rw [su_ne (by omega)]
    unfold sGrow
    by_cases z2 : f = 1 ∧ j < p
    · rw [if_pos z2, if_pos (by omega)]
    · rw [if_neg z2, if_neg (by omega)]
def sEndK (τ υ : St) (k : Nat) : Prop := sEndStep τ k = υ ∧ sEndQ τ k = (if sAlive υ k = true then 0 else 1)
theorem kForg {τ : St} {k : Nat} (h : sAlive τ k = true) (h2 : τ 14 1 ≤ τ 0 2 - τ 11 k) : sEndK τ (su τ 12 k 2) k := ⟨(sEnd_forg h h2).1, by rw [(sEnd_forg h h2).2, if_neg (by simp [sAlive, su_same])]⟩
theorem sOutgrow_dead {τ : St} {k : Nat} (hk : k < τ 0 1) : sAlive (sOutgrow τ k) k = false := by
  have e : k ≠ τ 0 1 := by omega
  unfold sAlive
  cases hq : sHeirOf τ k with
  | none => rw [sOutgrow_n hq, su_same]; decide
  | some q =>
    have e2 : sOutgrow τ k = sAddN (su τ 12 k 4) (τ 9 k) q (τ 6 k) (τ 7 k) (τ 0 2) := by unfold sOutgrow; rw [hq]
    rw [e2]
    simp [sAddN, su, e]
theorem kOut {τ : St} {k : Nat} (hk : k < τ 0 1) (h : sAlive τ k = true) (h2 : τ 0 2 - τ 11 k < τ 14 1) (h3 : 4 * τ 14 2 * τ 6 k < τ 1 (τ 9 k)) : sEndK τ (sOutgrow τ k) k := ⟨(sEnd_out h h2 h3).1, by rw [(sEnd_out h h2 h3).2, if_neg (by rw [sOutgrow_dead hk]; decide)]⟩
theorem kStay {τ : St} {k : Nat} (h : sAlive τ k = true) (h2 : τ 0 2 - τ 11 k < τ 14 1) (h3 : τ 1 (τ 9 k) ≤ 4 * τ 14 2 * τ 6 k) : sEndK τ τ k := ⟨(sEnd_stay h h2 h3).1, by rw [(sEnd_stay h h2 h3).2, if_pos h]⟩
theorem kJ {τ υ : St} {k a : Nat} {g : eH} (h : sEndK τ υ k) (hA : eRow g a υ) : ∃ υ, sEndK τ υ k ∧ eRow g a υ := ⟨υ, h, hA⟩
theorem kN_t {τ υ ψ : St} {k e : Nat} (he : e = sEndN ψ k) (hτ : τ = sEnd ψ k) (h : sEndK τ υ k) (c : sAlive υ k = true) : e + 0 = sEndN ψ (k + 1) := by rw [sEndN, ← hτ, h.2, if_pos c, he]
theorem kN_f {τ υ ψ : St} {k e : Nat} (he : e = sEndN ψ k) (hτ : τ = sEnd ψ k) (h : sEndK τ υ k) (c : sAlive υ k = false) : e + 1 = sEndN ψ (k + 1) := by rw [sEndN, ← hτ, h.2, if_neg (by rw [c]; decide), he]
theorem kN_d {τ ψ : St} {k e : Nat} (he : e = sEndN ψ k) (hτ : τ = sEnd ψ k) (c : sAlive τ k = false) : e = sEndN ψ (k + 1) := by rw [sEndN, ← hτ, (sEnd_dead c).2, he]; rfl
set_option maxHeartbeats 4000000 in
set_option maxRecDepth 20000 in
theorem c_X11_goYear {h : eH} {n a : Nat} {σ : St} (hA : eRow h a σ) (hK : eOK σ) (hE : ∀ k, k ≤ σ 0 1 → eOK (sEnd (sOlder σ) k) ∧ σ 0 1 ≤ sEnd (sOlder σ) k 0 1) : kX11_goYear [.ref a] h n (.inl (some (.int (nI (sEndN (sOlder σ) (σ 0 1))))), (fun g' => eRow g' a (sEnd (sOlder σ) (σ 0 1)) ∧ eFr h g' a (a + 1)), some n) 0 0 := by
  refine eM.of RX11 "goYear" [(0, .ref a)] pn_X11 rfl rfl (Nat.le_of_ble_eq_true rfl) rfl ?_
  have hB : eB σ := hK.1
  have h12 := hK.2.1
  have h40 := hK.2.2.1
  have FR : eFr h h a (a + 1) := eFr.rf
  refine ev_iconst (v := nI 0) dX11_goYear_0 rfl ?_
  refine ev_istore_n dX11_goYear_1 rfl (Nat.le_of_ble_eq_true rfl) ?_
  refine ev_aload_n dX11_goYear_2 rfl rfl ?_
  refine ev_sipush (v := nI 381) dX11_goYear_3 rfl ?_
  first | refine ev_rowG (f := 0) (j := 1) dX11_goYear_6 (by assumption) (Nat.le_of_ble_eq_true rfl) (fun _ => rfl) ?_ | refine ev_ialoadA dX11_goYear_6 (by first | assumption | omega | exact ePp.ob (by assumption) | exact eNm.ob (by assumption) | exact eRg.ob (by assumption) | exact eTx.ob (by assumption) | exact ePa.ob (by assumption)) (by first | assumption | omega | exact ePp.ob (by assumption) | exact eNm.ob (by assumption) | exact eRg.ob (by assumption) | exact eTx.ob (by assumption) | exact ePa.ob (by assumption)) ?_
  refine ev_istore_n dX11_goYear_7 rfl (Nat.le_of_ble_eq_true rfl) ?_
  refine ev_aload_n dX11_goYear_8 rfl rfl ?_
  refine ev_sipush (v := nI 382) dX11_goYear_9 rfl ?_
  refine ev_dup2 dX11_goYear_12 rfl rfl ?_
  first | refine ev_rowG (f := 0) (j := 2) dX11_goYear_13 (by assumption) (Nat.le_of_ble_eq_true rfl) (fun _ => rfl) ?_ | refine ev_ialoadA dX11_goYear_13 (by first | assumption | omega | exact ePp.ob (by assumption) | exact eNm.ob (by assumption) | exact eRg.ob (by assumption) | exact eTx.ob (by assumption) | exact ePa.ob (by assumption)) (by first | assumption | omega | exact ePp.ob (by assumption) | exact eNm.ob (by assumption) | exact eRg.ob (by assumption) | exact eTx.ob (by assumption) | exact ePa.ob (by assumption)) ?_
  refine ev_iconst (v := nI 1) dX11_goYear_14 rfl ?_
  first | refine ev_iaddN dX11_goYear_15 ?_ | refine ev_iadd dX11_goYear_15 ?_
  refine ev_rowsetG (f := 0) (j := 2) (i := 382) dX11_goYear_16 (by assumption) (Nat.le_of_ble_eq_true rfl) (rowF_g382 _) (fun g_16 fr_16 w_16 => ?_)
  replace hA := w_16
  first | replace FR := eFr.trans FR (eFr.one fr_16 (by omega) (by omega)) | replace FR := eFr.trans FR (eFr.wide fr_16 (by omega) (by omega))
  refine ev_iconst (v := nI 0) dX11_goYear_17 rfl ?_
  refine ev_istore_n dX11_goYear_18 rfl (Nat.le_of_ble_eq_true rfl) ?_
  have H_19 : ∀ (d_19 : Nat) (p : Nat) (g : eH), d_19 = σ 0 0 - p → (p ≤ σ 0 0) → (eRow g a (sGrow (su σ 0 2 (σ 0 2 + 1)) p)) → (eFr h g a (a + 1)) → eV mX11_goYear 19 [(0, .ref a), (1, .int (nI 0)), (2, .int (nI (σ 0 1))), (3, .int (nI p))] [] (g, n, 0, 0) (.inl (some (.int (nI (sEndN (sOlder σ) (σ 0 1))))), (fun g' => eRow g' a (sEnd (sOlder σ) (σ 0 1)) ∧ eFr h g' a (a + 1)), some n) 0 0 := by
    intro d_19
    induction d_19 using Nat.strongRecOn with
    | _ d_19 ih_19 =>
    intro p g hd_19 hp hA FR
    refine ev_iload_n dX11_goYear_19 rfl rfl ?_
    refine ev_aload_n dX11_goYear_20 rfl rfl ?_
    refine ev_sipush (v := nI 380) dX11_goYear_21 rfl ?_
    first | refine ev_rowG (f := 0) (j := 0) dX11_goYear_24 (by assumption) (Nat.le_of_ble_eq_true rfl) (fun _ => rfl) ?_ | refine ev_ialoadA dX11_goYear_24 (by first | assumption | omega | exact ePp.ob (by assumption) | exact eNm.ob (by assumption) | exact eRg.ob (by assumption) | exact eTx.ob (by assumption) | exact ePa.ob (by assumption)) (by first | assumption | omega | exact ePp.ob (by assumption) | exact eNm.ob (by assumption) | exact eRg.ob (by assumption) | exact eTx.ob (by assumption) | exact ePa.ob (by assumption)) ?_
    refine ev_top (show nI _ = nI (σ 0 0) from rfl) ?_
    first | ((with_reducible show eV _ _ _ (Value.int (nI _) :: Value.int (nI _) :: _) _ _ _ _); refine ev_icmp_geN (tgt := 45) dX11_goYear_25 (by decide) (by first | omega | exact hB _ _ | exact hbb _ _ | exact Nat.lt_of_le_of_lt hb4 (by decide) | exact Nat.lt_of_le_of_lt (Nat.sub_le _ _) (hbb _ _)) (by first | omega | exact hB _ _ | exact hbb _ _ | exact Nat.lt_of_le_of_lt hb4 (by decide) | exact Nat.lt_of_le_of_lt (Nat.sub_le _ _) (hbb _ _)) (fun c_25 => ?_) (fun c_25 => ?_)) | ((with_reducible show eV _ _ _ (Value.int (nI _) :: _) _ _ _ _); refine ev_icmp_geZN (tgt := 45) dX11_goYear_25 (by decide) (by first | omega | exact hB _ _ | exact hbb _ _ | exact Nat.lt_of_le_of_lt hb4 (by decide) | exact Nat.lt_of_le_of_lt (Nat.sub_le _ _) (hbb _ _)) (fun c_25 => ?_) (fun c_25 => ?_)) | ((with_reducible show eV _ _ _ (_ :: Value.int (nI _) :: _) _ _ _ _); refine ev_icmp_geNZ (tgt := 45) dX11_goYear_25 (by decide) (by first | omega | exact hB _ _ | exact hbb _ _ | exact Nat.lt_of_le_of_lt hb4 (by decide) | exact Nat.lt_of_le_of_lt (Nat.sub_le _ _) (hbb _ _)) (fun c_25 => ?_) (fun c_25 => ?_)) | (refine ev_icmp_geZZ (tgt := 45) dX11_goYear_25 (by decide) (fun c_25 => ?_) (fun c_25 => ?_))
    · have hA2 : eRow g a (sOlder σ) := (by have e : p = σ 0 0 := (by omega); rw [e] at hA; exact hA)
      refine ev_iconst (v := nI 0) dX11_goYear_45 rfl ?_
      refine ev_istore_n dX11_goYear_46 rfl (Nat.le_of_ble_eq_true rfl) ?_
      have H_47 : ∀ (d_47 : Nat) (k e : Nat) (g : eH), d_47 = σ 0 1 - k → (k ≤ σ 0 1) → (e = sEndN (sOlder σ) k) → (eRow g a (sEnd (sOlder σ) k)) → (eFr h g a (a + 1)) → eV mX11_goYear 47 [(0, .ref a), (1, .int (nI e)), (2, .int (nI (σ 0 1))), (3, .int (nI k))] [] (g, n, 0, 0) (.inl (some (.int (nI (sEndN (sOlder σ) (σ 0 1))))), (fun g' => eRow g' a (sEnd (sOlder σ) (σ 0 1)) ∧ eFr h g' a (a + 1)), some n) 0 0 := by
        intro d_47
        induction d_47 using Nat.strongRecOn with
        | _ d_47 ih_47 =>
        intro k e g hd_47 hk he hA2 FR
        refine ev_iload_n dX11_goYear_47 rfl rfl ?_
        refine ev_iload_n dX11_goYear_48 rfl rfl ?_
        first | ((with_reducible show eV _ _ _ (Value.int (nI _) :: Value.int (nI _) :: _) _ _ _ _); refine ev_icmp_geN (tgt := 153) dX11_goYear_49 (by decide) (by first | omega | exact hB _ _ | exact hbb _ _ | exact Nat.lt_of_le_of_lt hb4 (by decide) | exact Nat.lt_of_le_of_lt (Nat.sub_le _ _) (hbb _ _)) (by first | omega | exact hB _ _ | exact hbb _ _ | exact Nat.lt_of_le_of_lt hb4 (by decide) | exact Nat.lt_of_le_of_lt (Nat.sub_le _ _) (hbb _ _)) (fun c_49 => ?_) (fun c_49 => ?_)) | ((with_reducible show eV _ _ _ (Value.int (nI _) :: _) _ _ _ _); refine ev_icmp_geZN (tgt := 153) dX11_goYear_49 (by decide) (by first | omega | exact hB _ _ | exact hbb _ _ | exact Nat.lt_of_le_of_lt hb4 (by decide) | exact Nat.lt_of_le_of_lt (Nat.sub_le _ _) (hbb _ _)) (fun c_49 => ?_) (fun c_49 => ?_)) | ((with_reducible show eV _ _ _ (_ :: Value.int (nI _) :: _) _ _ _ _); refine ev_icmp_geNZ (tgt := 153) dX11_goYear_49 (by decide) (by first | omega | exact hB _ _ | exact hbb _ _ | exact Nat.lt_of_le_of_lt hb4 (by decide) | exact Nat.lt_of_le_of_lt (Nat.sub_le _ _) (hbb _ _)) (fun c_49 => ?_) (fun c_49 => ?_)) | (refine ev_icmp_geZZ (tgt := 153) dX11_goYear_49 (by decide) (fun c_49 => ?_) (fun c_49 => ?_))
        · refine ev_iload_n dX11_goYear_153 rfl rfl ?_
          exact ev_iret dX11_goYear_154 rfl rfl (by exact nR (by have z : k = σ 0 1 := (by omega); rw [he, z])) (by exact (by have z : k = σ 0 1 := (by omega); rw [z] at hA2; exact ⟨hA2, FR⟩)) (fun _ e => by first | exact Option.some.inj e | (have e2 := Option.some.inj e; omega)) (by first | exact Nat.le_of_ble_eq_true rfl | omega) (by first | exact Nat.le_of_ble_eq_true rfl | omega)
        · obtain ⟨τ, hτ⟩ : ∃ τ, τ = sEnd (sOlder σ) k := ⟨_, rfl⟩
          have hE0 := hE k hk
          have hE1 := (hE (k + 1) (by omega)).1
          rw [sEnd] at hE1
          rw [← hτ] at hA2 hE0 hE1
          obtain ⟨hKτ, hct⟩ := hE0
          have hBτ : eB τ := hKτ.1
          have hτ40 := hKτ.2.2.1
          have hτ12 := hKτ.2.1
          obtain ⟨hn9, hn8, hn6, hn64, -, -, -, hn11⟩ := hKτ.2.2.2.1 k (by omega)
          have hn14 := hKτ.2.2.2.2.2.2.2.2
          have hb4 : 4 * τ 14 2 * τ 6 k ≤ 4 * 9 * 4 := Nat.mul_le_mul (Nat.mul_le_mul_left 4 hn14) hn64
          refine ev_iload_n dX11_goYear_52 rfl rfl ?_
          refine ev_callSi dX11_goYear_53 c_X11_spot lk_X11_61 ⟨Nat.le_of_ble_eq_true rfl, Nat.le_of_ble_eq_true rfl⟩ rfl (Nat.le_of_ble_eq_true rfl) ⟨by first | exact Nat.le_of_ble_eq_true rfl | omega, by first | exact Nat.le_of_ble_eq_true rfl | omega⟩ (eRo ?_)
          refine ev_istore dX11_goYear_56 (Nat.le_of_ble_eq_true rfl) ?_
          refine ev_aload_n dX11_goYear_58 rfl rfl ?_
          refine ev_iload_n dX11_goYear_59 rfl rfl ?_
          refine ev_callSi dX11_goYear_60 (c_X11_isAlive hA2 hBτ (by omega)) lk_X11_64 ⟨Nat.le_of_ble_eq_true rfl, Nat.le_of_ble_eq_true rfl⟩ rfl (Nat.le_of_ble_eq_true rfl) ⟨by first | exact Nat.le_of_ble_eq_true rfl | omega, by first | exact Nat.le_of_ble_eq_true rfl | omega⟩ (eRo ?_)
          first | ((with_reducible show eV _ _ _ (Value.int (bI _) :: _) _ _ _ _); refine ev_if_eqB (tgt := 147) dX11_goYear_63 (by decide) (fun c_63 => ?_) (fun c_63 => ?_)) | ((with_reducible show eV _ _ _ (Value.int (nI _) :: _) _ _ _ _); refine ev_if_eqN (tgt := 147) dX11_goYear_63 (by decide) (by first | omega | exact hB _ _ | exact hbb _ _ | exact Nat.lt_of_le_of_lt hb4 (by decide) | exact Nat.lt_of_le_of_lt (Nat.sub_le _ _) (hbb _ _)) (fun c_63 => ?_) (fun c_63 => ?_)) | (refine ev_if_eqZ (tgt := 147) dX11_goYear_63 (by decide) (fun c_63 => ?_) (fun c_63 => ?_))
          · first | refine ev_iincN dX11_goYear_147 rfl (Nat.le_of_ble_eq_true rfl) ?_ | refine ev_iinc dX11_goYear_147 rfl rfl (Nat.le_of_ble_eq_true rfl) ?_
            refine ev_goto (tgt := 47) dX11_goYear_150 (by decide) ?_
            exact (ih_47 _ (by omega) (k + 1) _ _ rfl (by first | omega | assumption | rfl) (by first | exact kN_t he hτ key c_137 | exact kN_f he hτ key c_137 | exact kN_d he hτ c_63) (by first | (rw [sEnd, ← hτ, key.1]; exact hA3) | (rw [sEnd, ← hτ, (sEnd_dead c_63).1]; exact hA2)) (by first | omega | assumption | rfl)).sub1 ⟨rfl, rfl, rfl, rfl, trivial⟩ rfl
          · have hbb : ∀ f i, τ f i < 2 ^ 31 := hBτ
            refine ev_aload_n dX11_goYear_66 rfl rfl ?_
            refine ev_sipush (v := nI 382) dX11_goYear_67 rfl ?_
            first | refine ev_rowG (f := 0) (j := 2) dX11_goYear_70 (by assumption) (Nat.le_of_ble_eq_true rfl) (fun _ => rfl) ?_ | refine ev_ialoadA dX11_goYear_70 (by first | assumption | omega | exact ePp.ob (by assumption) | exact eNm.ob (by assumption) | exact eRg.ob (by assumption) | exact eTx.ob (by assumption) | exact ePa.ob (by assumption)) (by first | assumption | omega | exact ePp.ob (by assumption) | exact eNm.ob (by assumption) | exact eRg.ob (by assumption) | exact eTx.ob (by assumption) | exact ePa.ob (by assumption)) ?_
            refine ev_aload_n dX11_goYear_71 rfl rfl ?_
            refine ev_iload dX11_goYear_72 rfl ?_
            refine ev_iconst (v := nI 5) dX11_goYear_74 rfl ?_
            first | refine ev_iaddN dX11_goYear_75 ?_ | refine ev_iadd dX11_goYear_75 ?_
            first | refine ev_rowN (f := 5) (F := 11) dX11_goYear_76 (by assumption) (by first | assumption | omega | exact ePp.ob (by assumption) | exact eNm.ob (by assumption) | exact eRg.ob (by assumption) | exact eTx.ob (by assumption) | exact ePa.ob (by assumption)) (by decide) rfl ?_ | refine ev_ialoadA dX11_goYear_76 (by first | assumption | omega | exact ePp.ob (by assumption) | exact eNm.ob (by assumption) | exact eRg.ob (by assumption) | exact eTx.ob (by assumption) | exact ePa.ob (by assumption)) (by first | assumption | omega | exact ePp.ob (by assumption) | exact eNm.ob (by assumption) | exact eRg.ob (by assumption) | exact eTx.ob (by assumption) | exact ePa.ob (by assumption)) ?_
            first | refine ev_isubN dX11_goYear_77 (by first | assumption | omega | exact ePp.ob (by assumption) | exact eNm.ob (by assumption) | exact eRg.ob (by assumption) | exact eTx.ob (by assumption) | exact ePa.ob (by assumption)) ?_ | refine ev_isub dX11_goYear_77 ?_
            refine ev_aload_n dX11_goYear_78 rfl rfl ?_
            refine ev_sipush (v := nI 387) dX11_goYear_79 rfl ?_
            first | refine ev_rowG (f := 14) (j := 1) dX11_goYear_82 (by assumption) (Nat.le_of_ble_eq_true rfl) (fun _ => rfl) ?_ | refine ev_ialoadA dX11_goYear_82 (by first | assumption | omega | exact ePp.ob (by assumption) | exact eNm.ob (by assumption) | exact eRg.ob (by assumption) | exact eTx.ob (by assumption) | exact ePa.ob (by assumption)) (by first | assumption | omega | exact ePp.ob (by assumption) | exact eNm.ob (by assumption) | exact eRg.ob (by assumption) | exact eTx.ob (by assumption) | exact ePa.ob (by assumption)) ?_
            first | ((with_reducible show eV _ _ _ (Value.int (nI _) :: Value.int (nI _) :: _) _ _ _ _); refine ev_icmp_ltN (tgt := 97) dX11_goYear_83 (by decide) (by first | omega | exact hB _ _ | exact hbb _ _ | exact Nat.lt_of_le_of_lt hb4 (by decide) | exact Nat.lt_of_le_of_lt (Nat.sub_le _ _) (hbb _ _)) (by first | omega | exact hB _ _ | exact hbb _ _ | exact Nat.lt_of_le_of_lt hb4 (by decide) | exact Nat.lt_of_le_of_lt (Nat.sub_le _ _) (hbb _ _)) (fun c_83 => ?_) (fun c_83 => ?_)) | ((with_reducible show eV _ _ _ (Value.int (nI _) :: _) _ _ _ _); refine ev_icmp_ltZN (tgt := 97) dX11_goYear_83 (by decide) (by first | omega | exact hB _ _ | exact hbb _ _ | exact Nat.lt_of_le_of_lt hb4 (by decide) | exact Nat.lt_of_le_of_lt (Nat.sub_le _ _) (hbb _ _)) (fun c_83 => ?_) (fun c_83 => ?_)) | ((with_reducible show eV _ _ _ (_ :: Value.int (nI _) :: _) _ _ _ _); refine ev_icmp_ltNZ (tgt := 97) dX11_goYear_83 (by decide) (by first | omega | exact hB _ _ | exact hbb _ _ | exact Nat.lt_of_le_of_lt hb4 (by decide) | exact Nat.lt_of_le_of_lt (Nat.sub_le _ _) (hbb _ _)) (fun c_83 => ?_) (fun c_83 => ?_)) | (refine ev_icmp_ltZZ (tgt := 97) dX11_goYear_83 (by decide) (fun c_83 => ?_) (fun c_83 => ?_))
            · refine ev_aload_n dX11_goYear_97 rfl rfl ?_
              refine ev_iconst (v := nI 5) dX11_goYear_98 rfl ?_
              refine ev_aload_n dX11_goYear_99 rfl rfl ?_
              refine ev_iload dX11_goYear_100 rfl ?_
              refine ev_iconst (v := nI 3) dX11_goYear_102 rfl ?_
              first | refine ev_iaddN dX11_goYear_103 ?_ | refine ev_iadd dX11_goYear_103 ?_
              first | refine ev_rowN (f := 3) (F := 9) dX11_goYear_104 (by assumption) (by first | assumption | omega | exact ePp.ob (by assumption) | exact eNm.ob (by assumption) | exact eRg.ob (by assumption) | exact eTx.ob (by assumption) | exact ePa.ob (by assumption)) (by decide) rfl ?_ | refine ev_rowP (f := 3) (F := 4) dX11_goYear_104 (by assumption) (by first | assumption | omega | exact ePp.ob (by assumption) | exact eNm.ob (by assumption) | exact eRg.ob (by assumption) | exact eTx.ob (by assumption) | exact ePa.ob (by assumption)) (by decide) rfl ?_ | refine ev_ialoadA dX11_goYear_104 (by first | assumption | omega | exact ePp.ob (by assumption) | exact eNm.ob (by assumption) | exact eRg.ob (by assumption) | exact eTx.ob (by assumption) | exact ePa.ob (by assumption)) (by first | assumption | omega | exact ePp.ob (by assumption) | exact eNm.ob (by assumption) | exact eRg.ob (by assumption) | exact eTx.ob (by assumption) | exact ePa.ob (by assumption)) ?_
              first | refine ev_imulN dX11_goYear_105 ?_ | refine ev_imul dX11_goYear_105 ?_
              refine ev_iconst (v := nI 0) dX11_goYear_106 rfl ?_
              first | refine ev_iaddN dX11_goYear_107 ?_ | refine ev_iadd dX11_goYear_107 ?_
              first | refine ev_rowN (f := 0) (F := 6) dX11_goYear_108 (by assumption) (by first | assumption | omega | exact ePp.ob (by assumption) | exact eNm.ob (by assumption) | exact eRg.ob (by assumption) | exact eTx.ob (by assumption) | exact ePa.ob (by assumption)) (by decide) rfl ?_ | refine ev_rowP (f := 0) (F := 1) dX11_goYear_108 (by assumption) (by first | assumption | omega | exact ePp.ob (by assumption) | exact eNm.ob (by assumption) | exact eRg.ob (by assumption) | exact eTx.ob (by assumption) | exact ePa.ob (by assumption)) (by decide) rfl ?_ | refine ev_ialoadA dX11_goYear_108 (by first | assumption | omega | exact ePp.ob (by assumption) | exact eNm.ob (by assumption) | exact eRg.ob (by assumption) | exact eTx.ob (by assumption) | exact ePa.ob (by assumption)) (by first | assumption | omega | exact ePp.ob (by assumption) | exact eNm.ob (by assumption) | exact eRg.ob (by assumption) | exact eTx.ob (by assumption) | exact ePa.ob (by assumption)) ?_
              refine ev_iconst (v := nI 4) dX11_goYear_109 rfl ?_
              refine ev_aload_n dX11_goYear_110 rfl rfl ?_
              refine ev_sipush (v := nI 388) dX11_goYear_111 rfl ?_
              first | refine ev_rowG (f := 14) (j := 2) dX11_goYear_114 (by assumption) (Nat.le_of_ble_eq_true rfl) (fun _ => rfl) ?_ | refine ev_ialoadA dX11_goYear_114 (by first | assumption | omega | exact ePp.ob (by assumption) | exact eNm.ob (by assumption) | exact eRg.ob (by assumption) | exact eTx.ob (by assumption) | exact ePa.ob (by assumption)) (by first | assumption | omega | exact ePp.ob (by assumption) | exact eNm.ob (by assumption) | exact eRg.ob (by assumption) | exact eTx.ob (by assumption) | exact ePa.ob (by assumption)) ?_
              first | refine ev_imulN dX11_goYear_115 ?_ | refine ev_imul dX11_goYear_115 ?_
              refine ev_aload_n dX11_goYear_116 rfl rfl ?_
              refine ev_iload dX11_goYear_117 rfl ?_
              refine ev_iconst (v := nI 0) dX11_goYear_119 rfl ?_
              first | refine ev_iaddN dX11_goYear_120 ?_ | refine ev_iadd dX11_goYear_120 ?_
              first | refine ev_rowN (f := 0) (F := 6) dX11_goYear_121 (by assumption) (by first | assumption | omega | exact ePp.ob (by assumption) | exact eNm.ob (by assumption) | exact eRg.ob (by assumption) | exact eTx.ob (by assumption) | exact ePa.ob (by assumption)) (by decide) rfl ?_ | refine ev_rowP (f := 0) (F := 1) dX11_goYear_121 (by assumption) (by first | assumption | omega | exact ePp.ob (by assumption) | exact eNm.ob (by assumption) | exact eRg.ob (by assumption) | exact eTx.ob (by assumption) | exact ePa.ob (by assumption)) (by decide) rfl ?_ | refine ev_ialoadA dX11_goYear_121 (by first | assumption | omega | exact ePp.ob (by assumption) | exact eNm.ob (by assumption) | exact eRg.ob (by assumption) | exact eTx.ob (by assumption) | exact ePa.ob (by assumption)) (by first | assumption | omega | exact ePp.ob (by assumption) | exact eNm.ob (by assumption) | exact eRg.ob (by assumption) | exact eTx.ob (by assumption) | exact ePa.ob (by assumption)) ?_
              first | refine ev_imulN dX11_goYear_122 ?_ | refine ev_imul dX11_goYear_122 ?_
              first | ((with_reducible show eV _ _ _ (Value.int (nI _) :: Value.int (nI _) :: _) _ _ _ _); refine ev_icmp_leN (tgt := 131) dX11_goYear_123 (by decide) (by first | omega | exact hB _ _ | exact hbb _ _ | exact Nat.lt_of_le_of_lt hb4 (by decide) | exact Nat.lt_of_le_of_lt (Nat.sub_le _ _) (hbb _ _)) (by first | omega | exact hB _ _ | exact hbb _ _ | exact Nat.lt_of_le_of_lt hb4 (by decide) | exact Nat.lt_of_le_of_lt (Nat.sub_le _ _) (hbb _ _)) (fun c_123 => ?_) (fun c_123 => ?_)) | ((with_reducible show eV _ _ _ (Value.int (nI _) :: _) _ _ _ _); refine ev_icmp_leZN (tgt := 131) dX11_goYear_123 (by decide) (by first | omega | exact hB _ _ | exact hbb _ _ | exact Nat.lt_of_le_of_lt hb4 (by decide) | exact Nat.lt_of_le_of_lt (Nat.sub_le _ _) (hbb _ _)) (fun c_123 => ?_) (fun c_123 => ?_)) | ((with_reducible show eV _ _ _ (_ :: Value.int (nI _) :: _) _ _ _ _); refine ev_icmp_leNZ (tgt := 131) dX11_goYear_123 (by decide) (by first | omega | exact hB _ _ | exact hbb _ _ | exact Nat.lt_of_le_of_lt hb4 (by decide) | exact Nat.lt_of_le_of_lt (Nat.sub_le _ _) (hbb _ _)) (fun c_123 => ?_) (fun c_123 => ?_)) | (refine ev_icmp_leZZ (tgt := 131) dX11_goYear_123 (by decide) (fun c_123 => ?_) (fun c_123 => ?_))
              · first | obtain ⟨υ, key, hA3⟩ := kJ (kForg c_63 c_83) hA2 | obtain ⟨υ, key, hA3⟩ := kJ (kOut (by omega) c_63 c_83 c_123) hA2 | obtain ⟨υ, key, hA3⟩ := kJ (kStay c_63 c_83 c_123) hA2
                have hK3 : eOK υ := key.1 ▸ hE1
                refine ev_iload_n dX11_goYear_131 rfl rfl ?_
                refine ev_aload_n dX11_goYear_132 rfl rfl ?_
                refine ev_iload_n dX11_goYear_133 rfl rfl ?_
                refine ev_callSi dX11_goYear_134 (c_X11_isAlive hA3 hK3.1 (by omega)) lk_X11_64 ⟨Nat.le_of_ble_eq_true rfl, Nat.le_of_ble_eq_true rfl⟩ rfl (Nat.le_of_ble_eq_true rfl) ⟨by first | exact Nat.le_of_ble_eq_true rfl | omega, by first | exact Nat.le_of_ble_eq_true rfl | omega⟩ (eRo ?_)
                first | ((with_reducible show eV _ _ _ (Value.int (bI _) :: _) _ _ _ _); refine ev_if_eqB (tgt := 144) dX11_goYear_137 (by decide) (fun c_137 => ?_) (fun c_137 => ?_)) | ((with_reducible show eV _ _ _ (Value.int (nI _) :: _) _ _ _ _); refine ev_if_eqN (tgt := 144) dX11_goYear_137 (by decide) (by first | omega | exact hB _ _ | exact hbb _ _ | exact Nat.lt_of_le_of_lt hb4 (by decide) | exact Nat.lt_of_le_of_lt (Nat.sub_le _ _) (hbb _ _)) (fun c_137 => ?_) (fun c_137 => ?_)) | (refine ev_if_eqZ (tgt := 144) dX11_goYear_137 (by decide) (fun c_137 => ?_) (fun c_137 => ?_))
                · refine ev_iconst (v := nI 1) dX11_goYear_144 rfl ?_
                  first | refine ev_iaddN dX11_goYear_145 ?_ | refine ev_iadd dX11_goYear_145 ?_
                  refine ev_istore_n dX11_goYear_146 rfl (Nat.le_of_ble_eq_true rfl) ?_
                  first | refine ev_iincN dX11_goYear_147 rfl (Nat.le_of_ble_eq_true rfl) ?_ | refine ev_iinc dX11_goYear_147 rfl rfl (Nat.le_of_ble_eq_true rfl) ?_
                  refine ev_goto (tgt := 47) dX11_goYear_150 (by decide) ?_
                  exact (ih_47 _ (by omega) (k + 1) _ _ rfl (by first | omega | assumption | rfl) (by first | exact kN_t he hτ key c_137 | exact kN_f he hτ key c_137 | exact kN_d he hτ c_63) (by first | (rw [sEnd, ← hτ, key.1]; exact hA3) | (rw [sEnd, ← hτ, (sEnd_dead c_63).1]; exact hA2)) (by first | omega | assumption | rfl)).sub1 ⟨rfl, rfl, rfl, rfl, trivial⟩ rfl
                · refine ev_iconst (v := nI 0) dX11_goYear_140 rfl ?_
                  refine ev_goto (tgt := 145) dX11_goYear_141 (by decide) ?_
                  first | refine ev_iaddN dX11_goYear_145 ?_ | refine ev_iadd dX11_goYear_145 ?_
                  refine ev_istore_n dX11_goYear_146 rfl (Nat.le_of_ble_eq_true rfl) ?_
                  first | refine ev_iincN dX11_goYear_147 rfl (Nat.le_of_ble_eq_true rfl) ?_ | refine ev_iinc dX11_goYear_147 rfl rfl (Nat.le_of_ble_eq_true rfl) ?_
                  refine ev_goto (tgt := 47) dX11_goYear_150 (by decide) ?_
                  exact (ih_47 _ (by omega) (k + 1) _ _ rfl (by first | omega | assumption | rfl) (by first | exact kN_t he hτ key c_137 | exact kN_f he hτ key c_137 | exact kN_d he hτ c_63) (by first | (rw [sEnd, ← hτ, key.1]; exact hA3) | (rw [sEnd, ← hτ, (sEnd_dead c_63).1]; exact hA2)) (by first | omega | assumption | rfl)).sub1 ⟨rfl, rfl, rfl, rfl, trivial⟩ rfl
              · refine ev_aload_n dX11_goYear_126 rfl rfl ?_
                refine ev_iload_n dX11_goYear_127 rfl rfl ?_
                refine ev_callSv dX11_goYear_128 (c_X11_outgrow hA2 hKτ (by omega)) lk_X11_104 ⟨Nat.le_of_ble_eq_true rfl, Nat.le_of_ble_eq_true rfl⟩ rfl (Nat.le_of_ble_eq_true rfl) ⟨by first | exact Nat.le_of_ble_eq_true rfl | omega, by first | exact Nat.le_of_ble_eq_true rfl | omega⟩ (fun g_128 hg_128 => ?_)
                obtain ⟨w_128, fr_128⟩ := hg_128
                replace hA2 := w_128
                first | replace FR := eFr.trans FR (eFr.one fr_128 (by omega) (by omega)) | replace FR := eFr.trans FR (eFr.wide fr_128 (by omega) (by omega))
                first | obtain ⟨υ, key, hA3⟩ := kJ (kForg c_63 c_83) hA2 | obtain ⟨υ, key, hA3⟩ := kJ (kOut (by omega) c_63 c_83 c_123) hA2 | obtain ⟨υ, key, hA3⟩ := kJ (kStay c_63 c_83 c_123) hA2
                have hK3 : eOK υ := key.1 ▸ hE1
                refine ev_iload_n dX11_goYear_131 rfl rfl ?_
                refine ev_aload_n dX11_goYear_132 rfl rfl ?_
                refine ev_iload_n dX11_goYear_133 rfl rfl ?_
                refine ev_callSi dX11_goYear_134 (c_X11_isAlive hA3 hK3.1 (by omega)) lk_X11_64 ⟨Nat.le_of_ble_eq_true rfl, Nat.le_of_ble_eq_true rfl⟩ rfl (Nat.le_of_ble_eq_true rfl) ⟨by first | exact Nat.le_of_ble_eq_true rfl | omega, by first | exact Nat.le_of_ble_eq_true rfl | omega⟩ (eRo ?_)
                first | ((with_reducible show eV _ _ _ (Value.int (bI _) :: _) _ _ _ _); refine ev_if_eqB (tgt := 144) dX11_goYear_137 (by decide) (fun c_137 => ?_) (fun c_137 => ?_)) | ((with_reducible show eV _ _ _ (Value.int (nI _) :: _) _ _ _ _); refine ev_if_eqN (tgt := 144) dX11_goYear_137 (by decide) (by first | omega | exact hB _ _ | exact hbb _ _ | exact Nat.lt_of_le_of_lt hb4 (by decide) | exact Nat.lt_of_le_of_lt (Nat.sub_le _ _) (hbb _ _)) (fun c_137 => ?_) (fun c_137 => ?_)) | (refine ev_if_eqZ (tgt := 144) dX11_goYear_137 (by decide) (fun c_137 => ?_) (fun c_137 => ?_))
                · refine ev_iconst (v := nI 1) dX11_goYear_144 rfl ?_
                  first | refine ev_iaddN dX11_goYear_145 ?_ | refine ev_iadd dX11_goYear_145 ?_
                  refine ev_istore_n dX11_goYear_146 rfl (Nat.le_of_ble_eq_true rfl) ?_
                  first | refine ev_iincN dX11_goYear_147 rfl (Nat.le_of_ble_eq_true rfl) ?_ | refine ev_iinc dX11_goYear_147 rfl rfl (Nat.le_of_ble_eq_true rfl) ?_
                  refine ev_goto (tgt := 47) dX11_goYear_150 (by decide) ?_
                  exact (ih_47 _ (by omega) (k + 1) _ _ rfl (by first | omega | assumption | rfl) (by first | exact kN_t he hτ key c_137 | exact kN_f he hτ key c_137 | exact kN_d he hτ c_63) (by first | (rw [sEnd, ← hτ, key.1]; exact hA3) | (rw [sEnd, ← hτ, (sEnd_dead c_63).1]; exact hA2)) (by first | omega | assumption | rfl)).sub1 ⟨rfl, rfl, rfl, rfl, trivial⟩ rfl
                · refine ev_iconst (v := nI 0) dX11_goYear_140 rfl ?_
                  refine ev_goto (tgt := 145) dX11_goYear_141 (by decide) ?_
                  first | refine ev_iaddN dX11_goYear_145 ?_ | refine ev_iadd dX11_goYear_145 ?_
                  refine ev_istore_n dX11_goYear_146 rfl (Nat.le_of_ble_eq_true rfl) ?_
                  first | refine ev_iincN dX11_goYear_147 rfl (Nat.le_of_ble_eq_true rfl) ?_ | refine ev_iinc dX11_goYear_147 rfl rfl (Nat.le_of_ble_eq_true rfl) ?_
                  refine ev_goto (tgt := 47) dX11_goYear_150 (by decide) ?_
                  exact (ih_47 _ (by omega) (k + 1) _ _ rfl (by first | omega | assumption | rfl) (by first | exact kN_t he hτ key c_137 | exact kN_f he hτ key c_137 | exact kN_d he hτ c_63) (by first | (rw [sEnd, ← hτ, key.1]; exact hA3) | (rw [sEnd, ← hτ, (sEnd_dead c_63).1]; exact hA2)) (by first | omega | assumption | rfl)).sub1 ⟨rfl, rfl, rfl, rfl, trivial⟩ rfl
            · refine ev_aload_n dX11_goYear_86 rfl rfl ?_
              refine ev_iload dX11_goYear_87 rfl ?_
              refine ev_bipush (v := nI 6) dX11_goYear_89 rfl ?_
              first | refine ev_iaddN dX11_goYear_91 ?_ | refine ev_iadd dX11_goYear_91 ?_
              refine ev_iconst (v := nI 2) dX11_goYear_92 rfl ?_
              first | refine ev_rowsetN (f := 6) (F := 12) dX11_goYear_93 (by assumption) (by first | assumption | omega | exact ePp.ob (by assumption) | exact eNm.ob (by assumption) | exact eRg.ob (by assumption) | exact eTx.ob (by assumption) | exact ePa.ob (by assumption)) (by decide) rfl (fun g_93 fr_93 w_93 => ?_)
              replace hA2 := w_93
              first | replace FR := eFr.trans FR (eFr.one fr_93 (by omega) (by omega)) | replace FR := eFr.trans FR (eFr.wide fr_93 (by omega) (by omega))
              refine ev_goto (tgt := 131) dX11_goYear_94 (by decide) ?_
              first | obtain ⟨υ, key, hA3⟩ := kJ (kForg c_63 c_83) hA2 | obtain ⟨υ, key, hA3⟩ := kJ (kOut (by omega) c_63 c_83 c_123) hA2 | obtain ⟨υ, key, hA3⟩ := kJ (kStay c_63 c_83 c_123) hA2
              have hK3 : eOK υ := key.1 ▸ hE1
              refine ev_iload_n dX11_goYear_131 rfl rfl ?_
              refine ev_aload_n dX11_goYear_132 rfl rfl ?_
              refine ev_iload_n dX11_goYear_133 rfl rfl ?_
              refine ev_callSi dX11_goYear_134 (c_X11_isAlive hA3 hK3.1 (by omega)) lk_X11_64 ⟨Nat.le_of_ble_eq_true rfl, Nat.le_of_ble_eq_true rfl⟩ rfl (Nat.le_of_ble_eq_true rfl) ⟨by first | exact Nat.le_of_ble_eq_true rfl | omega, by first | exact Nat.le_of_ble_eq_true rfl | omega⟩ (eRo ?_)
              first | ((with_reducible show eV _ _ _ (Value.int (bI _) :: _) _ _ _ _); refine ev_if_eqB (tgt := 144) dX11_goYear_137 (by decide) (fun c_137 => ?_) (fun c_137 => ?_)) | ((with_reducible show eV _ _ _ (Value.int (nI _) :: _) _ _ _ _); refine ev_if_eqN (tgt := 144) dX11_goYear_137 (by decide) (by first | omega | exact hB _ _ | exact hbb _ _ | exact Nat.lt_of_le_of_lt hb4 (by decide) | exact Nat.lt_of_le_of_lt (Nat.sub_le _ _) (hbb _ _)) (fun c_137 => ?_) (fun c_137 => ?_)) | (refine ev_if_eqZ (tgt := 144) dX11_goYear_137 (by decide) (fun c_137 => ?_) (fun c_137 => ?_))
              · refine ev_iconst (v := nI 1) dX11_goYear_144 rfl ?_
                first | refine ev_iaddN dX11_goYear_145 ?_ | refine ev_iadd dX11_goYear_145 ?_
                refine ev_istore_n dX11_goYear_146 rfl (Nat.le_of_ble_eq_true rfl) ?_
                first | refine ev_iincN dX11_goYear_147 rfl (Nat.le_of_ble_eq_true rfl) ?_ | refine ev_iinc dX11_goYear_147 rfl rfl (Nat.le_of_ble_eq_true rfl) ?_
                refine ev_goto (tgt := 47) dX11_goYear_150 (by decide) ?_
                exact (ih_47 _ (by omega) (k + 1) _ _ rfl (by first | omega | assumption | rfl) (by first | exact kN_t he hτ key c_137 | exact kN_f he hτ key c_137 | exact kN_d he hτ c_63) (by first | (rw [sEnd, ← hτ, key.1]; exact hA3) | (rw [sEnd, ← hτ, (sEnd_dead c_63).1]; exact hA2)) (by first | omega | assumption | rfl)).sub1 ⟨rfl, rfl, rfl, rfl, trivial⟩ rfl
              · refine ev_iconst (v := nI 0) dX11_goYear_140 rfl ?_
                refine ev_goto (tgt := 145) dX11_goYear_141 (by decide) ?_
                first | refine ev_iaddN dX11_goYear_145 ?_ | refine ev_iadd dX11_goYear_145 ?_
                refine ev_istore_n dX11_goYear_146 rfl (Nat.le_of_ble_eq_true rfl) ?_
                first | refine ev_iincN dX11_goYear_147 rfl (Nat.le_of_ble_eq_true rfl) ?_ | refine ev_iinc dX11_goYear_147 rfl rfl (Nat.le_of_ble_eq_true rfl) ?_
                refine ev_goto (tgt := 47) dX11_goYear_150 (by decide) ?_
                exact (ih_47 _ (by omega) (k + 1) _ _ rfl (by first | omega | assumption | rfl) (by first | exact kN_t he hτ key c_137 | exact kN_f he hτ key c_137 | exact kN_d he hτ c_63) (by first | (rw [sEnd, ← hτ, key.1]; exact hA3) | (rw [sEnd, ← hτ, (sEnd_dead c_63).1]; exact hA2)) (by first | omega | assumption | rfl)).sub1 ⟨rfl, rfl, rfl, rfl, trivial⟩ rfl
      exact (H_47 _ 0 0 g rfl (by first | omega | assumption | rfl) (by first | omega | assumption | rfl) (by first | omega | assumption | rfl) (by first | omega | assumption | rfl)).sub1 ⟨rfl, rfl, rfl, rfl, trivial⟩ rfl
    · refine ev_aload_n dX11_goYear_28 rfl rfl ?_
      refine ev_iconst (v := nI 5) dX11_goYear_29 rfl ?_
      refine ev_iload_n dX11_goYear_30 rfl rfl ?_
      first | refine ev_imulN dX11_goYear_31 ?_ | refine ev_imul dX11_goYear_31 ?_
      refine ev_iconst (v := nI 0) dX11_goYear_32 rfl ?_
      first | refine ev_iaddN dX11_goYear_33 ?_ | refine ev_iadd dX11_goYear_33 ?_
      refine ev_dup2 dX11_goYear_34 rfl rfl ?_
      first | refine ev_rowN (f := 0) (F := 6) dX11_goYear_35 (by assumption) (by first | assumption | omega | exact ePp.ob (by assumption) | exact eNm.ob (by assumption) | exact eRg.ob (by assumption) | exact eTx.ob (by assumption) | exact ePa.ob (by assumption)) (by decide) rfl ?_ | refine ev_rowP (f := 0) (F := 1) dX11_goYear_35 (by assumption) (by first | assumption | omega | exact ePp.ob (by assumption) | exact eNm.ob (by assumption) | exact eRg.ob (by assumption) | exact eTx.ob (by assumption) | exact ePa.ob (by assumption)) (by decide) rfl ?_ | refine ev_ialoadA dX11_goYear_35 (by first | assumption | omega | exact ePp.ob (by assumption) | exact eNm.ob (by assumption) | exact eRg.ob (by assumption) | exact eTx.ob (by assumption) | exact ePa.ob (by assumption)) (by first | assumption | omega | exact ePp.ob (by assumption) | exact eNm.ob (by assumption) | exact eRg.ob (by assumption) | exact eTx.ob (by assumption) | exact ePa.ob (by assumption)) ?_
      refine ev_iconst (v := nI 1) dX11_goYear_36 rfl ?_
      first | refine ev_iaddN dX11_goYear_37 ?_ | refine ev_iadd dX11_goYear_37 ?_
      first | refine ev_rowsetN (f := 0) (F := 6) dX11_goYear_38 (by assumption) (by first | assumption | omega | exact ePp.ob (by assumption) | exact eNm.ob (by assumption) | exact eRg.ob (by assumption) | exact eTx.ob (by assumption) | exact ePa.ob (by assumption)) (by decide) rfl (fun g_38 fr_38 w_38 => ?_) | refine ev_rowsetP (f := 0) (F := 1) dX11_goYear_38 (by assumption) (by first | assumption | omega | exact ePp.ob (by assumption) | exact eNm.ob (by assumption) | exact eRg.ob (by assumption) | exact eTx.ob (by assumption) | exact ePa.ob (by assumption)) (by decide) rfl (fun g_38 fr_38 w_38 => ?_)
      replace hA := w_38
      first | replace FR := eFr.trans FR (eFr.one fr_38 (by omega) (by omega)) | replace FR := eFr.trans FR (eFr.wide fr_38 (by omega) (by omega))
      first | refine ev_iincN dX11_goYear_39 rfl (Nat.le_of_ble_eq_true rfl) ?_ | refine ev_iinc dX11_goYear_39 rfl rfl (Nat.le_of_ble_eq_true rfl) ?_
      refine ev_goto (tgt := 19) dX11_goYear_42 (by decide) ?_
      exact (ih_19 _ (by omega) (p + 1) _ rfl (by first | omega | assumption | rfl) (by rw [← sGrow_su]; exact hA) (by first | omega | assumption | rfl)).sub1 ⟨rfl, rfl, rfl, rfl, trivial⟩ rfl
  exact (H_19 _ 0 g_16 rfl (by first | omega | assumption | rfl) (by rw [sGrow_0]; exact hA) (by first | omega | assumption | rfl)).sub1 ⟨rfl, rfl, rfl, rfl, trivial⟩ rfl
theorem eIv.goE {σ : St} {T : Nat} (h : eIv σ T) (hT : T < 2 ^ 30) (hy : σ 0 2 < 999) : ∀ k, k ≤ σ 0 1 → eOK (sEnd (sOlder σ) k) ∧ σ 0 1 ≤ sEnd (sOlder σ) k 0 1 := fun k hk => by
  obtain ⟨z1, z2, z3⟩ := sOlder_n σ
  obtain ⟨g1, g2, g3, g4⟩ := (h.older hy).end_ (k := k) (by omega)
  exact ⟨g1.ok hT, by omega⟩
set_option maxHeartbeats 4000000 in
set_option maxRecDepth 20000 in
theorem c_X11_goYears {h : eH} {n a y T : Nat} {σ : St} (hA : eRow h a σ) (hI : eIv σ T) (hT : T < 2 ^ 30) (hl : σ 0 2 + y ≤ 999) : kX11_goYears [.ref a, .int (nI y)] h n (.inl (some (.int (nI (sYearsN σ y)))), (fun g' => eRow g' a (sYears σ y) ∧ eFr h g' a (a + 1)), some n) 0 0 := by
  refine eM.of RX11 "goYears" [(0, .ref a), (1, .int (nI y))] pn_X11 rfl rfl (Nat.le_of_ble_eq_true rfl) rfl ?_
  have FR : eFr h h a (a + 1) := eFr.rf
  refine ev_iconst (v := nI 0) dX11_goYears_0 rfl ?_
  refine ev_istore_n dX11_goYears_1 rfl (Nat.le_of_ble_eq_true rfl) ?_
  refine ev_iconst (v := nI 0) dX11_goYears_2 rfl ?_
  refine ev_istore_n dX11_goYears_3 rfl (Nat.le_of_ble_eq_true rfl) ?_
  have H_4 : ∀ (d_4 : Nat) (k e : Nat) (g : eH), d_4 = y - k → (k ≤ y) → (e = sYearsN σ k) → (eRow g a (sYears σ k)) → (eFr h g a (a + 1)) → eV mX11_goYears 4 [(0, .ref a), (1, .int (nI y)), (2, .int (nI e)), (3, .int (nI k))] [] (g, n, 0, 0) (.inl (some (.int (nI (sYearsN σ y)))), (fun g' => eRow g' a (sYears σ y) ∧ eFr h g' a (a + 1)), some n) 0 0 := by
    intro d_4
    induction d_4 using Nat.strongRecOn with
    | _ d_4 ih_4 =>
    intro k e g hd_4 hk he hA FR
    refine ev_iload_n dX11_goYears_4 rfl rfl ?_
    refine ev_iload_n dX11_goYears_5 rfl rfl ?_
    first | ((with_reducible show eV _ _ _ (Value.int (nI _) :: Value.int (nI _) :: _) _ _ _ _); refine ev_icmp_geN (tgt := 22) dX11_goYears_6 (by decide) (by omega) (by omega) (fun c_6 => ?_) (fun c_6 => ?_)) | ((with_reducible show eV _ _ _ (Value.int (nI _) :: _) _ _ _ _); refine ev_icmp_geZN (tgt := 22) dX11_goYears_6 (by decide) (by omega) (fun c_6 => ?_) (fun c_6 => ?_)) | ((with_reducible show eV _ _ _ (_ :: Value.int (nI _) :: _) _ _ _ _); refine ev_icmp_geNZ (tgt := 22) dX11_goYears_6 (by decide) (by omega) (fun c_6 => ?_) (fun c_6 => ?_)) | (refine ev_icmp_geZZ (tgt := 22) dX11_goYears_6 (by decide) (fun c_6 => ?_) (fun c_6 => ?_))
    · refine ev_iload_n dX11_goYears_22 rfl rfl ?_
      exact ev_iret dX11_goYears_23 rfl rfl (by exact nR (by have z : k = y := (by omega); rw [he, z])) (by exact (by have z : k = y := (by omega); rw [z] at hA; exact ⟨hA, FR⟩)) (fun _ e => by first | exact Option.some.inj e | (have e2 := Option.some.inj e; omega)) (by first | exact Nat.le_of_ble_eq_true rfl | omega) (by first | exact Nat.le_of_ble_eq_true rfl | omega)
    · obtain ⟨hJ, hJ2, hJ3⟩ := hI.years (n := k) (by omega)
      refine ev_iload_n dX11_goYears_9 rfl rfl ?_
      refine ev_aload_n dX11_goYears_10 rfl rfl ?_
      refine ev_callSi dX11_goYears_11 (c_X11_goYear hA (hJ.ok hT) (hJ.goE hT (by omega))) lk_X11_108 ⟨Nat.le_of_ble_eq_true rfl, Nat.le_of_ble_eq_true rfl⟩ rfl (Nat.le_of_ble_eq_true rfl) ⟨by first | exact Nat.le_of_ble_eq_true rfl | omega, by first | exact Nat.le_of_ble_eq_true rfl | omega⟩ (fun g_11 hg_11 => ?_)
      obtain ⟨w_11, fr_11⟩ := hg_11
      replace hA := w_11
      first | replace FR := eFr.trans FR (eFr.one fr_11 (by omega) (by omega)) | replace FR := eFr.trans FR (eFr.wide fr_11 (by omega) (by omega))
      first | refine ev_iaddN dX11_goYears_14 ?_ | refine ev_iadd dX11_goYears_14 ?_
      refine ev_istore_n dX11_goYears_15 rfl (Nat.le_of_ble_eq_true rfl) ?_
      first | refine ev_iincN dX11_goYears_16 rfl (Nat.le_of_ble_eq_true rfl) ?_ | refine ev_iinc dX11_goYears_16 rfl rfl (Nat.le_of_ble_eq_true rfl) ?_
      refine ev_goto (tgt := 4) dX11_goYears_19 (by decide) ?_
      exact (ih_4 _ (by omega) (k + 1) _ _ rfl (by first | omega | assumption | rfl) (by rw [sYearsN, he]) (by exact hA) (by first | omega | assumption | rfl)).sub1 ⟨rfl, rfl, rfl, rfl, trivial⟩ rfl
  exact (H_4 _ 0 0 h rfl (by first | omega | assumption | rfl) (by first | omega | assumption | rfl) (by first | omega | assumption | rfl) (by first | omega | assumption | rfl)).sub1 ⟨rfl, rfl, rfl, rfl, trivial⟩ rfl
set_option maxHeartbeats 4000000 in
set_option maxRecDepth 20000 in
theorem c_X11_hasYears {h : eH} {n a y : Nat} {σ : St} (hA : eRow h a σ) (hb : σ 0 2 + y < 2 ^ 31) : kX11_hasYears [.ref a, .int (nI y)] h n (.inl (some (.int (bI (decide (σ 0 2 + y ≤ 999))))), (· = h), some n) 0 0 := by
  refine eM.of RX11 "hasYears" [(0, .ref a), (1, .int (nI y))] pn_X11 rfl rfl (Nat.le_of_ble_eq_true rfl) rfl ?_
  refine ev_aload_n dX11_hasYears_0 rfl rfl ?_
  refine ev_sipush (v := nI 382) dX11_hasYears_1 rfl ?_
  first | refine ev_rowG (f := 0) (j := 2) dX11_hasYears_4 (by assumption) (Nat.le_of_ble_eq_true rfl) (fun _ => rfl) ?_ | refine ev_ialoadA dX11_hasYears_4 (by first | assumption | omega | exact ePp.ob (by assumption) | exact eNm.ob (by assumption) | exact eRg.ob (by assumption) | exact eTx.ob (by assumption) | exact ePa.ob (by assumption)) (by first | assumption | omega | exact ePp.ob (by assumption) | exact eNm.ob (by assumption) | exact eRg.ob (by assumption) | exact eTx.ob (by assumption) | exact ePa.ob (by assumption)) ?_
  refine ev_iload_n dX11_hasYears_5 rfl rfl ?_
  first | refine ev_iaddN dX11_hasYears_6 ?_ | refine ev_iadd dX11_hasYears_6 ?_
  refine ev_sipush (v := nI 999) dX11_hasYears_7 rfl ?_
  first | ((with_reducible show eV _ _ _ (Value.int (nI _) :: Value.int (nI _) :: _) _ _ _ _); refine ev_icmp_gtN (tgt := 17) dX11_hasYears_10 (by decide) (by omega) (by omega) (fun c_10 => ?_) (fun c_10 => ?_)) | ((with_reducible show eV _ _ _ (Value.int (nI _) :: _) _ _ _ _); refine ev_icmp_gtZN (tgt := 17) dX11_hasYears_10 (by decide) (by omega) (fun c_10 => ?_) (fun c_10 => ?_)) | ((with_reducible show eV _ _ _ (_ :: Value.int (nI _) :: _) _ _ _ _); refine ev_icmp_gtNZ (tgt := 17) dX11_hasYears_10 (by decide) (by omega) (fun c_10 => ?_) (fun c_10 => ?_)) | (refine ev_icmp_gtZZ (tgt := 17) dX11_hasYears_10 (by decide) (fun c_10 => ?_) (fun c_10 => ?_))
  · refine ev_iconst (v := nI 0) dX11_hasYears_17 rfl ?_
    exact ev_iret dX11_hasYears_18 rfl (by first | rfl | exact bI_n _) (by first | exact bR0 (decide_eq_false (by omega)) | exact bR1 (decide_eq_true (by omega))) (by rfl) (fun _ e => Option.some.inj e) (Nat.le_of_ble_eq_true rfl) (Nat.le_of_ble_eq_true rfl)
  · refine ev_iconst (v := nI 1) dX11_hasYears_13 rfl ?_
    refine ev_goto (tgt := 18) dX11_hasYears_14 (by decide) ?_
    exact ev_iret dX11_hasYears_18 rfl (by first | rfl | exact bI_n _) (by first | exact bR0 (decide_eq_false (by omega)) | exact bR1 (decide_eq_true (by omega))) (by rfl) (fun _ e => Option.some.inj e) (Nat.le_of_ble_eq_true rfl) (Nat.le_of_ble_eq_true rfl)
theorem su_id {σ : St} {f i v : Nat} (h : σ f i = v) : su σ f i v = σ := by
  funext g j
  by_cases z : g = f ∧ j = i
  · rw [z.1, z.2, su_same, h]
  · rw [su_ne (by omega)]
theorem sAddP_z {σ : St} {a f b : Nat} (h4 : σ 4 (σ 0 0) = 0) (h5 : σ 5 (σ 0 0) = 0) : su (su (su (su σ 1 (σ 0 0) a) 2 (σ 0 0) f) 3 (σ 0 0) b) 0 0 (σ 0 0 + 1) = sAddP σ a f b := by
  have e4 : su (su (su (su σ 1 (σ 0 0) a) 2 (σ 0 0) f) 3 (σ 0 0) b) 4 (σ 0 0) 0 = su (su (su σ 1 (σ 0 0) a) 2 (σ 0 0) f) 3 (σ 0 0) b := su_id h4
  have e5 : su (su (su (su σ 1 (σ 0 0) a) 2 (σ 0 0) f) 3 (σ 0 0) b) 5 (σ 0 0) 0 = su (su (su σ 1 (σ 0 0) a) 2 (σ 0 0) f) 3 (σ 0 0) b := su_id h5
  unfold sAddP
  rw [e4, e5]
set_option maxHeartbeats 4000000 in
set_option maxRecDepth 20000 in
theorem c_X11_addPerson {h : eH} {n a u f b : Nat} {σ : St} (hA : eRow h a σ) (hl : σ 0 0 < 12) (h4 : σ 4 (σ 0 0) = 0) (h5 : σ 5 (σ 0 0) = 0) : kX11_addPerson [.ref a, .int (nI u), .int (nI f), .int (nI b)] h n (.inl (some (.int (nI (σ 0 0)))), (fun g' => eRow g' a (sAddP σ u f b) ∧ eFr h g' a (a + 1)), some n) 0 0 := by
  refine eM.of RX11 "addPerson" [(0, .ref a), (1, .int (nI u)), (2, .int (nI f)), (3, .int (nI b))] pn_X11 rfl rfl (Nat.le_of_ble_eq_true rfl) rfl ?_
  have FR : eFr h h a (a + 1) := eFr.rf
  refine ev_iconst (v := nI 5) dX11_addPerson_0 rfl ?_
  refine ev_aload_n dX11_addPerson_1 rfl rfl ?_
  refine ev_sipush (v := nI 380) dX11_addPerson_2 rfl ?_
  first | refine ev_rowG (f := 0) (j := 0) dX11_addPerson_5 (by assumption) (Nat.le_of_ble_eq_true rfl) (fun _ => rfl) ?_ | refine ev_ialoadA dX11_addPerson_5 (by first | assumption | omega | exact ePp.ob (by assumption) | exact eNm.ob (by assumption) | exact eRg.ob (by assumption) | exact eTx.ob (by assumption) | exact ePa.ob (by assumption)) (by first | assumption | omega | exact ePp.ob (by assumption) | exact eNm.ob (by assumption) | exact eRg.ob (by assumption) | exact eTx.ob (by assumption) | exact ePa.ob (by assumption)) ?_
  first | refine ev_imulN dX11_addPerson_6 ?_ | refine ev_imul dX11_addPerson_6 ?_
  refine ev_istore dX11_addPerson_7 (Nat.le_of_ble_eq_true rfl) ?_
  refine ev_aload_n dX11_addPerson_9 rfl rfl ?_
  refine ev_iload dX11_addPerson_10 rfl ?_
  refine ev_iconst (v := nI 0) dX11_addPerson_12 rfl ?_
  first | refine ev_iaddN dX11_addPerson_13 ?_ | refine ev_iadd dX11_addPerson_13 ?_
  refine ev_iload_n dX11_addPerson_14 rfl rfl ?_
  first | refine ev_rowsetN (f := 0) (F := 6) dX11_addPerson_15 (by assumption) (by first | assumption | omega | exact ePp.ob (by assumption) | exact eNm.ob (by assumption) | exact eRg.ob (by assumption) | exact eTx.ob (by assumption) | exact ePa.ob (by assumption)) (by decide) rfl (fun g_15 fr_15 w_15 => ?_) | refine ev_rowsetP (f := 0) (F := 1) dX11_addPerson_15 (by assumption) (by first | assumption | omega | exact ePp.ob (by assumption) | exact eNm.ob (by assumption) | exact eRg.ob (by assumption) | exact eTx.ob (by assumption) | exact ePa.ob (by assumption)) (by decide) rfl (fun g_15 fr_15 w_15 => ?_)
  replace hA := w_15
  first | replace FR := eFr.trans FR (eFr.one fr_15 (by omega) (by omega)) | replace FR := eFr.trans FR (eFr.wide fr_15 (by omega) (by omega))
  refine ev_aload_n dX11_addPerson_16 rfl rfl ?_
  refine ev_iload dX11_addPerson_17 rfl ?_
  refine ev_iconst (v := nI 1) dX11_addPerson_19 rfl ?_
  first | refine ev_iaddN dX11_addPerson_20 ?_ | refine ev_iadd dX11_addPerson_20 ?_
  refine ev_iload_n dX11_addPerson_21 rfl rfl ?_
  first | refine ev_rowsetN (f := 1) (F := 7) dX11_addPerson_22 (by assumption) (by first | assumption | omega | exact ePp.ob (by assumption) | exact eNm.ob (by assumption) | exact eRg.ob (by assumption) | exact eTx.ob (by assumption) | exact ePa.ob (by assumption)) (by decide) rfl (fun g_22 fr_22 w_22 => ?_) | refine ev_rowsetP (f := 1) (F := 2) dX11_addPerson_22 (by assumption) (by first | assumption | omega | exact ePp.ob (by assumption) | exact eNm.ob (by assumption) | exact eRg.ob (by assumption) | exact eTx.ob (by assumption) | exact ePa.ob (by assumption)) (by decide) rfl (fun g_22 fr_22 w_22 => ?_)
  replace hA := w_22
  first | replace FR := eFr.trans FR (eFr.one fr_22 (by omega) (by omega)) | replace FR := eFr.trans FR (eFr.wide fr_22 (by omega) (by omega))
  refine ev_aload_n dX11_addPerson_23 rfl rfl ?_
  refine ev_iload dX11_addPerson_24 rfl ?_
  refine ev_iconst (v := nI 2) dX11_addPerson_26 rfl ?_
  first | refine ev_iaddN dX11_addPerson_27 ?_ | refine ev_iadd dX11_addPerson_27 ?_
  refine ev_iload_n dX11_addPerson_28 rfl rfl ?_
  first | refine ev_rowsetN (f := 2) (F := 8) dX11_addPerson_29 (by assumption) (by first | assumption | omega | exact ePp.ob (by assumption) | exact eNm.ob (by assumption) | exact eRg.ob (by assumption) | exact eTx.ob (by assumption) | exact ePa.ob (by assumption)) (by decide) rfl (fun g_29 fr_29 w_29 => ?_) | refine ev_rowsetP (f := 2) (F := 3) dX11_addPerson_29 (by assumption) (by first | assumption | omega | exact ePp.ob (by assumption) | exact eNm.ob (by assumption) | exact eRg.ob (by assumption) | exact eTx.ob (by assumption) | exact ePa.ob (by assumption)) (by decide) rfl (fun g_29 fr_29 w_29 => ?_)
  replace hA := w_29
  first | replace FR := eFr.trans FR (eFr.one fr_29 (by omega) (by omega)) | replace FR := eFr.trans FR (eFr.wide fr_29 (by omega) (by omega))
  refine ev_aload_n dX11_addPerson_30 rfl rfl ?_
  refine ev_sipush (v := nI 380) dX11_addPerson_31 rfl ?_
  refine ev_dup2 dX11_addPerson_34 rfl rfl ?_
  first | refine ev_rowG (f := 0) (j := 0) dX11_addPerson_35 (by assumption) (Nat.le_of_ble_eq_true rfl) (fun _ => rfl) ?_ | refine ev_ialoadA dX11_addPerson_35 (by first | assumption | omega | exact ePp.ob (by assumption) | exact eNm.ob (by assumption) | exact eRg.ob (by assumption) | exact eTx.ob (by assumption) | exact ePa.ob (by assumption)) (by first | assumption | omega | exact ePp.ob (by assumption) | exact eNm.ob (by assumption) | exact eRg.ob (by assumption) | exact eTx.ob (by assumption) | exact ePa.ob (by assumption)) ?_
  refine ev_iconst (v := nI 1) dX11_addPerson_36 rfl ?_
  first | refine ev_iaddN dX11_addPerson_37 ?_ | refine ev_iadd dX11_addPerson_37 ?_
  refine ev_rowsetG (f := 0) (j := 0) (i := 380) dX11_addPerson_38 (by assumption) (Nat.le_of_ble_eq_true rfl) (rowF_g380 _) (fun g_38 fr_38 w_38 => ?_)
  replace hA := w_38
  first | replace FR := eFr.trans FR (eFr.one fr_38 (by omega) (by omega)) | replace FR := eFr.trans FR (eFr.wide fr_38 (by omega) (by omega))
  refine ev_aload_n dX11_addPerson_39 rfl rfl ?_
  refine ev_sipush (v := nI 380) dX11_addPerson_40 rfl ?_
  first | refine ev_rowG (f := 0) (j := 0) dX11_addPerson_43 (by assumption) (Nat.le_of_ble_eq_true rfl) (fun _ => rfl) ?_ | refine ev_ialoadA dX11_addPerson_43 (by first | assumption | omega | exact ePp.ob (by assumption) | exact eNm.ob (by assumption) | exact eRg.ob (by assumption) | exact eTx.ob (by assumption) | exact ePa.ob (by assumption)) (by first | assumption | omega | exact ePp.ob (by assumption) | exact eNm.ob (by assumption) | exact eRg.ob (by assumption) | exact eTx.ob (by assumption) | exact ePa.ob (by assumption)) ?_
  refine ev_top (show nI _ = nI (σ 0 0 + 1) from rfl) ?_
  refine ev_iconst (v := nI 1) dX11_addPerson_44 rfl ?_
  first | refine ev_isubN dX11_addPerson_45 (by first | assumption | omega | exact ePp.ob (by assumption) | exact eNm.ob (by assumption) | exact eRg.ob (by assumption) | exact eTx.ob (by assumption) | exact ePa.ob (by assumption)) ?_ | refine ev_isub dX11_addPerson_45 ?_
  exact ev_iret dX11_addPerson_46 rfl rfl (by exact nR (by omega)) (by exact ⟨by rw [← sAddP_z h4 h5]; exact hA, FR⟩) (fun _ e => Option.some.inj e) (Nat.le_of_ble_eq_true rfl) (Nat.le_of_ble_eq_true rfl)
set_option maxHeartbeats 4000000 in
set_option maxRecDepth 20000 in
theorem c_X11_putP {h : eH} {n a p f F v : Nat} {σ : St} (hA : eRow h a σ) (hp : p < 12) (hf : f < 5) (e : 1 + f = F) : kX11_put [.ref a, .int (nI (5 * p + f)), .int (nI v)] h n (.inl (some (.int (nI (σ F p)))), (fun g' => eRow g' a (su σ F p v) ∧ eFr h g' a (a + 1)), some n) 0 0 := by
  refine eM.of RX11 "put" [(0, .ref a), (1, .int (nI (5 * p + f))), (2, .int (nI v))] pn_X11 rfl rfl (Nat.le_of_ble_eq_true rfl) rfl ?_
  have FR : eFr h h a (a + 1) := eFr.rf
  subst e
  refine ev_aload_n dX11_put_0 rfl rfl ?_
  refine ev_iload_n dX11_put_1 rfl rfl ?_
  refine ev_rowP dX11_put_2 hA hp hf rfl ?_
  refine ev_istore_n dX11_put_3 rfl (Nat.le_of_ble_eq_true rfl) ?_
  refine ev_aload_n dX11_put_4 rfl rfl ?_
  refine ev_iload_n dX11_put_5 rfl rfl ?_
  refine ev_iload_n dX11_put_6 rfl rfl ?_
  refine ev_rowsetP dX11_put_7 hA hp hf rfl (fun g_7 fr_7 w_7 => ?_)
  refine ev_iload_n dX11_put_8 rfl rfl ?_
  exact ev_iret dX11_put_9 rfl rfl (by rfl) (by exact ⟨w_7, eFr.one fr_7 (by omega) (by omega)⟩) (fun _ e => Option.some.inj e) (Nat.le_of_ble_eq_true rfl) (Nat.le_of_ble_eq_true rfl)
set_option maxHeartbeats 4000000 in
set_option maxRecDepth 20000 in
theorem c_X11_putS {h : eH} {n a w v : Nat} {σ : St} (hA : eRow h a σ) (hw : w < 3) : kX11_put [.ref a, .int (nI (386 + w)), .int (nI v)] h n (.inl (some (.int (nI (σ 14 w)))), (fun g' => eRow g' a (su σ 14 w v) ∧ eFr h g' a (a + 1)), some n) 0 0 := by
  refine eM.of RX11 "put" [(0, .ref a), (1, .int (nI (386 + w))), (2, .int (nI v))] pn_X11 rfl rfl (Nat.le_of_ble_eq_true rfl) rfl ?_
  refine ev_aload_n dX11_put_0 rfl rfl ?_
  refine ev_iload_n dX11_put_1 rfl rfl ?_
  refine ev_rowS dX11_put_2 hA hw ?_
  refine ev_istore_n dX11_put_3 rfl (Nat.le_of_ble_eq_true rfl) ?_
  refine ev_aload_n dX11_put_4 rfl rfl ?_
  refine ev_iload_n dX11_put_5 rfl rfl ?_
  refine ev_iload_n dX11_put_6 rfl rfl ?_
  refine ev_rowsetS dX11_put_7 hA hw (fun g_7 fr_7 w_7 => ?_)
  refine ev_iload_n dX11_put_8 rfl rfl ?_
  exact ev_iret dX11_put_9 rfl rfl (by rfl) (by exact ⟨w_7, eFr.one fr_7 (by omega) (by omega)⟩) (fun _ e => Option.some.inj e) (Nat.le_of_ble_eq_true rfl) (Nat.le_of_ble_eq_true rfl)

