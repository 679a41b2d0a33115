set_option maxHeartbeats 4000000 in
set_option maxRecDepth 20000 in
theorem c_X10_requirePerson {h : eH} {n b ℓ c p : Nat} {σ : St} {x : Nat → Nat} {τ τs : Nat → St} {us : Nat → Nat} (hO : eNB h b σ x ℓ c τ us τs) (hB : eB σ) (hp : p < σ 0 0) : kX10_requirePerson [.ref b, .int (nI p)] h n (.inl none, (· = h), some n) 0 0 := by
  refine eM.of RX10 "requirePerson" [(0, .ref b), (1, .int (nI p))] pn_X10 rfl rfl (Nat.le_of_ble_eq_true rfl) rfl ?_
  obtain ⟨o0, -, oR, -⟩ := id hO
  obtain ⟨r0, oPp, oN, -⟩ := id oR
  refine ev_aload_n dX10_requirePerson_0 rfl rfl ?_
  refine ev_getfield dX10_requirePerson_1 fl_X10_19 (by first | assumption | omega | exact ePp.ob (by assumption) | exact eNm.ob (by assumption) | exact eRg.ob (by assumption) | exact eTx.ob (by assumption) | exact ePa.ob (by assumption)) rfl ?_
  refine ev_getfield dX10_requirePerson_4 fl_X10_91 (by first | assumption | omega | exact ePp.ob (by assumption) | exact eNm.ob (by assumption) | exact eRg.ob (by assumption) | exact eTx.ob (by assumption) | exact ePa.ob (by assumption)) rfl ?_
  refine ev_iload_n dX10_requirePerson_7 rfl rfl ?_
  refine ev_callVi dX10_requirePerson_8 (c_X4_has oPp hB p (Nat.lt_trans hp (hB 0 0))) rfl lk_X10_347 (by first | assumption | omega | exact ePp.ob (by assumption) | exact eNm.ob (by assumption) | exact eRg.ob (by assumption) | exact eTx.ob (by assumption) | exact ePa.ob (by assumption)) ⟨Nat.le_of_ble_eq_true rfl, Nat.le_of_ble_eq_true rfl⟩ rfl (Nat.le_of_ble_eq_true rfl) ⟨Nat.le_of_ble_eq_true rfl, Nat.le_of_ble_eq_true rfl⟩ (eRo ?_)
  first | ((with_reducible show eV _ _ _ (Value.int (bI _) :: _) _ _ _ _); refine ev_if_neB (tgt := 25) dX10_requirePerson_11 (by decide) (fun c_11 => ?_) (fun c_11 => ?_)) | ((with_reducible show eV _ _ _ (Value.int (nI _) :: _) _ _ _ _); refine ev_if_neN (tgt := 25) dX10_requirePerson_11 (by decide) (by first | exact hB _ _ | omega) (fun c_11 => ?_) (fun c_11 => ?_)) | (refine ev_if_neZ (tgt := 25) dX10_requirePerson_11 (by decide) (fun c_11 => ?_) (fun c_11 => ?_))
  · exact ev_vret dX10_requirePerson_25 rfl rfl (by rfl) (fun _ e => Option.some.inj e) (Nat.le_of_ble_eq_true rfl) (Nat.le_of_ble_eq_true rfl)
  · exact absurd hp (of_decide_eq_false c_11)
set_option maxHeartbeats 4000000 in
set_option maxRecDepth 20000 in
theorem c_X10_requirePerson_n {h : eH} {n b ℓ c : Nat} {z : Int32} {σ : St} {x : Nat → Nat} {τ τs : Nat → St} {us : Nat → Nat} (hO : eNB h b σ x ℓ c τ us τs) (hB : eB σ) (hz : ¬ (0 ≤ z.toInt ∧ z.toInt < (σ 0 0 : Int))) : kX10_requirePerson [.ref b, .int z] h n (.inr "java/lang/IndexOutOfBoundsException", (· = h), none) 1 6 := by
  refine eM.of RX10 "requirePerson" [(0, .ref b), (1, .int z)] pn_X10 rfl rfl (Nat.le_of_ble_eq_true rfl) rfl ?_
  obtain ⟨o0, -, oR, -⟩ := id hO
  obtain ⟨r0, oPp, oN, -⟩ := id oR
  refine ev_aload_n dX10_requirePerson_0 rfl rfl ?_
  refine ev_getfield dX10_requirePerson_1 fl_X10_19 (by first | assumption | omega | exact ePp.ob (by assumption) | exact eNm.ob (by assumption) | exact eRg.ob (by assumption) | exact eTx.ob (by assumption) | exact ePa.ob (by assumption)) rfl ?_
  refine ev_getfield dX10_requirePerson_4 fl_X10_91 (by first | assumption | omega | exact ePp.ob (by assumption) | exact eNm.ob (by assumption) | exact eRg.ob (by assumption) | exact eTx.ob (by assumption) | exact ePa.ob (by assumption)) rfl ?_
  refine ev_iload_n dX10_requirePerson_7 rfl rfl ?_
  refine ev_callVi dX10_requirePerson_8 (c_X4_hasZ oPp hB) rfl lk_X10_347 (by first | assumption | omega | exact ePp.ob (by assumption) | exact eNm.ob (by assumption) | exact eRg.ob (by assumption) | exact eTx.ob (by assumption) | exact ePa.ob (by assumption)) ⟨Nat.le_of_ble_eq_true rfl, Nat.le_of_ble_eq_true rfl⟩ rfl (Nat.le_of_ble_eq_true rfl) ⟨Nat.le_of_ble_eq_true rfl, Nat.le_of_ble_eq_true rfl⟩ (eRo ?_)
  first | ((with_reducible show eV _ _ _ (Value.int (bI _) :: _) _ _ _ _); refine ev_if_neB (tgt := 25) dX10_requirePerson_11 (by decide) (fun c_11 => ?_) (fun c_11 => ?_)) | ((with_reducible show eV _ _ _ (Value.int (nI _) :: _) _ _ _ _); refine ev_if_neN (tgt := 25) dX10_requirePerson_11 (by decide) (by first | exact hB _ _ | omega) (fun c_11 => ?_) (fun c_11 => ?_)) | (refine ev_if_neZ (tgt := 25) dX10_requirePerson_11 (by decide) (fun c_11 => ?_) (fun c_11 => ?_))
  · exact absurd (of_decide_eq_true c_11) hz
  · exact ev_throwSW (text := "no such person") dX10_requirePerson_14 dX10_requirePerson_17 dX10_requirePerson_18 dX10_requirePerson_21 dX10_requirePerson_24 (by decide +kernel) (by decide +kernel) wk_X10_195 wi_java_lang_IndexOutOfBoundsException (by decide +kernel) th_X10_199 tg_X10_195_199 rfl (Nat.le_of_ble_eq_true rfl) (Nat.le_of_ble_eq_true rfl) (Nat.le_of_ble_eq_true rfl) (Nat.le_of_ble_eq_true rfl) rfl (by rfl)
set_option maxHeartbeats 4000000 in
set_option maxRecDepth 20000 in
theorem c_X10_requireName {h : eH} {n b ℓ c p : Nat} {σ : St} {x : Nat → Nat} {τ τs : Nat → St} {us : Nat → Nat} (hO : eNB h b σ x ℓ c τ us τs) (hB : eB σ) (hp : p < σ 0 1) : kX10_requireName [.ref b, .int (nI p)] h n (.inl none, (· = h), some n) 0 0 := by
  refine eM.of RX10 "requireName" [(0, .ref b), (1, .int (nI p))] pn_X10 rfl rfl (Nat.le_of_ble_eq_true rfl) rfl ?_
  obtain ⟨o0, -, oR, -⟩ := id hO
  obtain ⟨r0, oPp, oN, -⟩ := id oR
  refine ev_aload_n dX10_requireName_0 rfl rfl ?_
  refine ev_getfield dX10_requireName_1 fl_X10_19 (by first | assumption | omega | exact ePp.ob (by assumption) | exact eNm.ob (by assumption) | exact eRg.ob (by assumption) | exact eTx.ob (by assumption) | exact ePa.ob (by assumption)) rfl ?_
  refine ev_getfield dX10_requireName_4 fl_X10_100 (by first | assumption | omega | exact ePp.ob (by assumption) | exact eNm.ob (by assumption) | exact eRg.ob (by assumption) | exact eTx.ob (by assumption) | exact ePa.ob (by assumption)) rfl ?_
  refine ev_iload_n dX10_requireName_7 rfl rfl ?_
  refine ev_callVi dX10_requireName_8 (c_X2_hasN oN hB (Nat.lt_trans hp (hB 0 1))) rfl lk_X10_352 (by first | assumption | omega | exact ePp.ob (by assumption) | exact eNm.ob (by assumption) | exact eRg.ob (by assumption) | exact eTx.ob (by assumption) | exact ePa.ob (by assumption)) ⟨Nat.le_of_ble_eq_true rfl, Nat.le_of_ble_eq_true rfl⟩ rfl (Nat.le_of_ble_eq_true rfl) ⟨Nat.le_of_ble_eq_true rfl, Nat.le_of_ble_eq_true rfl⟩ (eRo ?_)
  first | ((with_reducible show eV _ _ _ (Value.int (bI _) :: _) _ _ _ _); refine ev_if_neB (tgt := 25) dX10_requireName_11 (by decide) (fun c_11 => ?_) (fun c_11 => ?_)) | ((with_reducible show eV _ _ _ (Value.int (nI _) :: _) _ _ _ _); refine ev_if_neN (tgt := 25) dX10_requireName_11 (by decide) (by first | exact hB _ _ | omega) (fun c_11 => ?_) (fun c_11 => ?_)) | (refine ev_if_neZ (tgt := 25) dX10_requireName_11 (by decide) (fun c_11 => ?_) (fun c_11 => ?_))
  · exact ev_vret dX10_requireName_25 rfl rfl (by rfl) (fun _ e => Option.some.inj e) (Nat.le_of_ble_eq_true rfl) (Nat.le_of_ble_eq_true rfl)
  · exact absurd hp (of_decide_eq_false c_11)
set_option maxHeartbeats 4000000 in
set_option maxRecDepth 20000 in
theorem c_X10_requireName_n {h : eH} {n b ℓ c : Nat} {z : Int32} {σ : St} {x : Nat → Nat} {τ τs : Nat → St} {us : Nat → Nat} (hO : eNB h b σ x ℓ c τ us τs) (hB : eB σ) (hz : ¬ (0 ≤ z.toInt ∧ z.toInt < (σ 0 1 : Int))) : kX10_requireName [.ref b, .int z] h n (.inr "java/lang/IndexOutOfBoundsException", (· = h), none) 1 6 := by
  refine eM.of RX10 "requireName" [(0, .ref b), (1, .int z)] pn_X10 rfl rfl (Nat.le_of_ble_eq_true rfl) rfl ?_
  obtain ⟨o0, -, oR, -⟩ := id hO
  obtain ⟨r0, oPp, oN, -⟩ := id oR
  refine ev_aload_n dX10_requireName_0 rfl rfl ?_
  refine ev_getfield dX10_requireName_1 fl_X10_19 (by first | assumption | omega | exact ePp.ob (by assumption) | exact eNm.ob (by assumption) | exact eRg.ob (by assumption) | exact eTx.ob (by assumption) | exact ePa.ob (by assumption)) rfl ?_
  refine ev_getfield dX10_requireName_4 fl_X10_100 (by first | assumption | omega | exact ePp.ob (by assumption) | exact eNm.ob (by assumption) | exact eRg.ob (by assumption) | exact eTx.ob (by assumption) | exact ePa.ob (by assumption)) rfl ?_
  refine ev_iload_n dX10_requireName_7 rfl rfl ?_
  refine ev_callVi dX10_requireName_8 (c_X2_has oN hB) rfl lk_X10_352 (by first | assumption | omega | exact ePp.ob (by assumption) | exact eNm.ob (by assumption) | exact eRg.ob (by assumption) | exact eTx.ob (by assumption) | exact ePa.ob (by assumption)) ⟨Nat.le_of_ble_eq_true rfl, Nat.le_of_ble_eq_true rfl⟩ rfl (Nat.le_of_ble_eq_true rfl) ⟨Nat.le_of_ble_eq_true rfl, Nat.le_of_ble_eq_true rfl⟩ (eRo ?_)
  first | ((with_reducible show eV _ _ _ (Value.int (bI _) :: _) _ _ _ _); refine ev_if_neB (tgt := 25) dX10_requireName_11 (by decide) (fun c_11 => ?_) (fun c_11 => ?_)) | ((with_reducible show eV _ _ _ (Value.int (nI _) :: _) _ _ _ _); refine ev_if_neN (tgt := 25) dX10_requireName_11 (by decide) (by first | exact hB _ _ | omega) (fun c_11 => ?_) (fun c_11 => ?_)) | (refine ev_if_neZ (tgt := 25) dX10_requireName_11 (by decide) (fun c_11 => ?_) (fun c_11 => ?_))
  · exact absurd (of_decide_eq_true c_11) hz
  · exact ev_throwSW (text := "no such name") dX10_requireName_14 dX10_requireName_17 dX10_requireName_18 dX10_requireName_21 dX10_requireName_24 (by decide +kernel) (by decide +kernel) wk_X10_195 wi_java_lang_IndexOutOfBoundsException (by decide +kernel) th_X10_199 tg_X10_195_199 rfl (Nat.le_of_ble_eq_true rfl) (Nat.le_of_ble_eq_true rfl) (Nat.le_of_ble_eq_true rfl) (Nat.le_of_ble_eq_true rfl) rfl (by rfl)
set_option maxHeartbeats 4000000 in
set_option maxRecDepth 20000 in
theorem c_X10_requireCode {h : eH} {n m c : Nat} (hm : m < 2 ^ 31) (hc : c < 2 ^ 31) (hmc : sCode m c = true) : kX10_requireCode [.int (nI m), .int (nI c)] h n (.inl none, (· = h), some n) 0 0 := by
  refine eM.of RX10 "requireCode" [(0, .int (nI m)), (1, .int (nI c))] pn_X10 rfl rfl (Nat.le_of_ble_eq_true rfl) rfl ?_
  refine ev_iload_n dX10_requireCode_0 rfl rfl ?_
  refine ev_iload_n dX10_requireCode_1 rfl rfl ?_
  refine ev_callSi dX10_requireCode_2 (c_X0_isCode hm hc) lk_X10_360 ⟨Nat.le_of_ble_eq_true rfl, Nat.le_of_ble_eq_true rfl⟩ rfl (Nat.le_of_ble_eq_true rfl) ⟨Nat.le_of_ble_eq_true rfl, Nat.le_of_ble_eq_true rfl⟩ (eRo ?_)
  first | ((with_reducible show eV _ _ _ (Value.int (bI _) :: _) _ _ _ _); refine ev_if_neB (tgt := 19) dX10_requireCode_5 (by decide) (fun c_5 => ?_) (fun c_5 => ?_)) | ((with_reducible show eV _ _ _ (Value.int (nI _) :: _) _ _ _ _); refine ev_if_neN (tgt := 19) dX10_requireCode_5 (by decide) (by first | exact hB _ _ | omega) (fun c_5 => ?_) (fun c_5 => ?_)) | (refine ev_if_neZ (tgt := 19) dX10_requireCode_5 (by decide) (fun c_5 => ?_) (fun c_5 => ?_))
  · exact ev_vret dX10_requireCode_19 rfl rfl (by rfl) (fun _ e => Option.some.inj e) (Nat.le_of_ble_eq_true rfl) (Nat.le_of_ble_eq_true rfl)
  · exact absurd hmc (by rw [c_5]; decide)
set_option maxHeartbeats 4000000 in
set_option maxRecDepth 20000 in
theorem c_X10_requireCode_n {h : eH} {n : Nat} {x y : Int32} (hx : ¬ ((1 ≤ x.toInt ∧ x.toInt < (5 : Nat)) ∧ 0 ≤ y.toInt ∧ y.toInt < ((26 ^ x.toInt.toNat : Nat) : Int))) : kX10_requireCode [.int x, .int y] h n (.inr "java/lang/IllegalArgumentException", (· = h), none) 1 6 := by
  refine eM.of RX10 "requireCode" [(0, .int x), (1, .int y)] pn_X10 rfl rfl (Nat.le_of_ble_eq_true rfl) rfl ?_
  refine ev_iload_n dX10_requireCode_0 rfl rfl ?_
  refine ev_iload_n dX10_requireCode_1 rfl rfl ?_
  refine ev_callSi dX10_requireCode_2 c_X0_isCodeZ lk_X10_360 ⟨Nat.le_of_ble_eq_true rfl, Nat.le_of_ble_eq_true rfl⟩ rfl (Nat.le_of_ble_eq_true rfl) ⟨Nat.le_of_ble_eq_true rfl, Nat.le_of_ble_eq_true rfl⟩ (eRo ?_)
  first | ((with_reducible show eV _ _ _ (Value.int (bI _) :: _) _ _ _ _); refine ev_if_neB (tgt := 19) dX10_requireCode_5 (by decide) (fun c_5 => ?_) (fun c_5 => ?_)) | ((with_reducible show eV _ _ _ (Value.int (nI _) :: _) _ _ _ _); refine ev_if_neN (tgt := 19) dX10_requireCode_5 (by decide) (by first | exact hB _ _ | omega) (fun c_5 => ?_) (fun c_5 => ?_)) | (refine ev_if_neZ (tgt := 19) dX10_requireCode_5 (by decide) (fun c_5 => ?_) (fun c_5 => ?_))
  · exact absurd (of_decide_eq_true c_5) hx
  · exact ev_throwSW (text := "no such letters") dX10_requireCode_8 dX10_requireCode_11 dX10_requireCode_12 dX10_requireCode_15 dX10_requireCode_18 (by decide +kernel) (by decide +kernel) wk_X10_47 wi_java_lang_IllegalArgumentException (by decide +kernel) th_X10_51 tg_X10_47_51 rfl (Nat.le_of_ble_eq_true rfl) (Nat.le_of_ble_eq_true rfl) (Nat.le_of_ble_eq_true rfl) (Nat.le_of_ble_eq_true rfl) rfl (by rfl)

