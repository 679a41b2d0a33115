theorem oRx {o : Option Nat} {k : Nat} (h : o = some k) : (Sum.inl (some (Value.int (oI o))) : Option Value ⊕ String) = Sum.inl (some (Value.int (nI k))) := oR h
def sAbout (σ : St) (w : Nat) : Nat := if w = 0 then σ 0 0 else if w = 1 then σ 0 1 else if w ≤ 6 then sInState σ (w - 2) else if w = 7 then σ 0 2 else if w = 8 then sSum (σ 10) (σ 0 1) else if w = 9 then σ 0 3 else if w = 10 then σ 0 4 else if w = 11 then σ 0 5 else σ 14 (w - 12)
def sPersonOf (σ : St) (p w : Nat) : Nat := if w = 3 then sLives σ p else if w = 4 then sBrothers σ p else if w = 5 then sGiven σ p else if w = 6 then sStuckG σ p else if w ≤ 2 then σ (1 + w) p else σ (w - 3) p
def sLetter (σ : St) (k p : Nat) : Option Nat := if p < σ 6 k then some (sLet (σ 6 k) (σ 7 k) p) else none
set_option maxHeartbeats 4000000 in
set_option maxRecDepth 20000 in
theorem c_X10_requireSlot {h : eH} {n b : Nat} (hb : b < 2) : kX10_requireSlot [.int (nI b)] h n (.inl none, (· = h), some n) 0 0 := by
  refine eM.of RX10 "requireSlot" [(0, .int (nI b))] pn_X10 rfl rfl (Nat.le_of_ble_eq_true rfl) rfl ?_
  refine ev_iload_n dX10_requireSlot_0 rfl rfl ?_
  (with_reducible show eV _ _ _ (Value.int (nI _) :: _) _ _ _ _); refine ev_if_ltN (tgt := 9) dX10_requireSlot_1 (by decide) (by first | exact hB _ _ | omega) ?_
  refine ev_iload_n dX10_requireSlot_4 rfl rfl ?_
  refine ev_iconst (v := nI 2) dX10_requireSlot_5 rfl ?_
  first | ((with_reducible show eV _ _ _ (Value.int (nI _) :: Value.int (nI _) :: _) _ _ _ _); refine ev_icmp_ltN (tgt := 20) dX10_requireSlot_6 (by decide) (by first | exact hB _ _ | omega) (by first | exact hB _ _ | omega) (fun c_6 => ?_) (fun c_6 => ?_)) | ((with_reducible show eV _ _ _ (Value.int (nI _) :: _) _ _ _ _); refine ev_icmp_ltZN (tgt := 20) dX10_requireSlot_6 (by decide) (by first | exact hB _ _ | omega) (fun c_6 => ?_) (fun c_6 => ?_)) | ((with_reducible show eV _ _ _ (_ :: Value.int (nI _) :: _) _ _ _ _); refine ev_icmp_ltNZ (tgt := 20) dX10_requireSlot_6 (by decide) (by first | exact hB _ _ | omega) (fun c_6 => ?_) (fun c_6 => ?_)) | (refine ev_icmp_ltZZ (tgt := 20) dX10_requireSlot_6 (by decide) (fun c_6 => ?_) (fun c_6 => ?_))
  · exact ev_vret dX10_requireSlot_20 rfl rfl (by rfl) (fun _ e => Option.some.inj e) (Nat.le_of_ble_eq_true rfl) (Nat.le_of_ble_eq_true rfl)
  · exact absurd hb (by omega)
set_option maxHeartbeats 4000000 in
set_option maxRecDepth 20000 in
theorem c_X10_requireSlot_n {h : eH} {n : Nat} {x : Int32} (hx : ¬ (0 ≤ x.toInt ∧ x.toInt < (2 : Nat))) : kX10_requireSlot [.int x] h n (.inr "java/lang/IndexOutOfBoundsException", (· = h), none) 1 6 := by
  refine eM.of RX10 "requireSlot" [(0, .int x)] pn_X10 rfl rfl (Nat.le_of_ble_eq_true rfl) rfl ?_
  refine ev_iload_n dX10_requireSlot_0 rfl rfl ?_
  first | ((with_reducible show eV _ _ _ (Value.int (nI _) :: _) _ _ _ _); refine ev_if_ltN (tgt := 9) dX10_requireSlot_1 (by decide) (by first | exact hB _ _ | omega) ?_) | (refine ev_if_ltZ (tgt := 9) dX10_requireSlot_1 (by decide) (fun c_1 => ?_) (fun c_1 => ?_))
  · exact ev_throwSW (text := "no such save slot") dX10_requireSlot_9 dX10_requireSlot_12 dX10_requireSlot_13 dX10_requireSlot_16 dX10_requireSlot_19 (by decide +kernel) (by decide +kernel) wk_X10_195 wi_java_lang_IndexOutOfBoundsException (by decide +kernel) th_X10_199 tg_X10_195_199 rfl (Nat.le_of_ble_eq_true rfl) (Nat.le_of_ble_eq_true rfl) (Nat.le_of_ble_eq_true rfl) (Nat.le_of_ble_eq_true rfl) rfl (by rfl)
  · refine ev_iload_n dX10_requireSlot_4 rfl rfl ?_
    refine ev_iconst (v := nI 2) dX10_requireSlot_5 rfl ?_
    first | ((with_reducible show eV _ _ _ (Value.int (nI _) :: Value.int (nI _) :: _) _ _ _ _); refine ev_icmp_ltN (tgt := 20) dX10_requireSlot_6 (by decide) (by first | exact hB _ _ | omega) (by first | exact hB _ _ | omega) (fun c_6 => ?_) (fun c_6 => ?_)) | ((with_reducible show eV _ _ _ (Value.int (nI _) :: _) _ _ _ _); refine ev_icmp_ltZN (tgt := 20) dX10_requireSlot_6 (by decide) (by first | exact hB _ _ | omega) (fun c_6 => ?_) (fun c_6 => ?_)) | ((with_reducible show eV _ _ _ (_ :: Value.int (nI _) :: _) _ _ _ _); refine ev_icmp_ltNZ (tgt := 20) dX10_requireSlot_6 (by decide) (by first | exact hB _ _ | omega) (fun c_6 => ?_) (fun c_6 => ?_)) | (refine ev_icmp_ltZZ (tgt := 20) dX10_requireSlot_6 (by decide) (fun c_6 => ?_) (fun c_6 => ?_))
    · exact absurd hx (by omega)
    · exact ev_throwSW (text := "no such save slot") dX10_requireSlot_9 dX10_requireSlot_12 dX10_requireSlot_13 dX10_requireSlot_16 dX10_requireSlot_19 (by decide +kernel) (by decide +kernel) wk_X10_195 wi_java_lang_IndexOutOfBoundsException (by decide +kernel) th_X10_199 tg_X10_195_199 rfl (Nat.le_of_ble_eq_true rfl) (Nat.le_of_ble_eq_true rfl) (Nat.le_of_ble_eq_true rfl) (Nat.le_of_ble_eq_true rfl) rfl (by rfl)
set_option maxHeartbeats 4000000 in
set_option maxRecDepth 20000 in
theorem c_X10_about {h : eH} {n b ℓ c w : Nat} {σ : St} {x : Nat → Nat} {τ τs : Nat → St} {us : Nat → Nat} (hO : eNB h b σ x ℓ c τ us τs) (hB : eB σ) (hw : w < 15) : kX10_about [.ref b, .int (nI w)] h n (.inl (some (.int (nI (sAbout σ w)))), (· = h), some n) 0 0 := by
  refine eM.of RX10 "about" [(0, .ref b), (1, .int (nI w))] pn_X10 rfl rfl (Nat.le_of_ble_eq_true rfl) rfl ?_
  obtain ⟨o0, -, oR, -⟩ := id hO
  obtain ⟨r0, oPp, oN, oS⟩ := id oR
  obtain ⟨p0, -⟩ := id oPp
  obtain ⟨n0, -⟩ := id oN
  refine ev_iload_n dX10_about_0 rfl rfl ?_
  by_cases z_1_0 : w = 0
  · refine ev_tabN (off := 75) (tgt := 76) dX10_about_1 (by rw [z_1_0]; decide) (by rw [z_1_0]; decide) (by rw [z_1_0]; decide) (by rw [z_1_0]; rfl) (by decide) ?_
    refine ev_aload_n dX10_about_76 rfl rfl ?_
    refine ev_getfield dX10_about_77 fl_X10_19 (by first | assumption | omega | exact ePp.ob (by assumption) | exact eNm.ob (by assumption) | exact eRg.ob (by assumption) | exact eTx.ob (by assumption) | exact ePa.ob (by assumption)) rfl ?_
    refine ev_getfield dX10_about_80 fl_X10_91 (by first | assumption | omega | exact ePp.ob (by assumption) | exact eNm.ob (by assumption) | exact eRg.ob (by assumption) | exact eTx.ob (by assumption) | exact ePa.ob (by assumption)) rfl ?_
    refine ev_getfield dX10_about_83 fl_X10_95 (by first | assumption | omega | exact ePp.ob (by assumption) | exact eNm.ob (by assumption) | exact eRg.ob (by assumption) | exact eTx.ob (by assumption) | exact ePa.ob (by assumption)) rfl ?_
    exact ev_iret dX10_about_86 rfl rfl (by subst w; exact nR rfl) (by rfl) (fun _ e => Option.some.inj e) (Nat.le_of_ble_eq_true rfl) (Nat.le_of_ble_eq_true rfl)
  by_cases z_1_1 : w = 1
  · refine ev_tabN (off := 86) (tgt := 87) dX10_about_1 (by rw [z_1_1]; decide) (by rw [z_1_1]; decide) (by rw [z_1_1]; decide) (by rw [z_1_1]; rfl) (by decide) ?_
    refine ev_aload_n dX10_about_87 rfl rfl ?_
    refine ev_getfield dX10_about_88 fl_X10_19 (by first | assumption | omega | exact ePp.ob (by assumption) | exact eNm.ob (by assumption) | exact eRg.ob (by assumption) | exact eTx.ob (by assumption) | exact ePa.ob (by assumption)) rfl ?_
    refine ev_getfield dX10_about_91 fl_X10_100 (by first | assumption | omega | exact ePp.ob (by assumption) | exact eNm.ob (by assumption) | exact eRg.ob (by assumption) | exact eTx.ob (by assumption) | exact ePa.ob (by assumption)) rfl ?_
    refine ev_getfield dX10_about_94 fl_X10_104 (by first | assumption | omega | exact ePp.ob (by assumption) | exact eNm.ob (by assumption) | exact eRg.ob (by assumption) | exact eTx.ob (by assumption) | exact ePa.ob (by assumption)) rfl ?_
    exact ev_iret dX10_about_97 rfl rfl (by subst w; exact nR rfl) (by rfl) (fun _ e => Option.some.inj e) (Nat.le_of_ble_eq_true rfl) (Nat.le_of_ble_eq_true rfl)
  by_cases z_1_2 : w = 2
  · refine ev_tabN (off := 97) (tgt := 98) dX10_about_1 (by rw [z_1_2]; decide) (by rw [z_1_2]; decide) (by rw [z_1_2]; decide) (by rw [z_1_2]; rfl) (by decide) ?_
    refine ev_aload_n dX10_about_98 rfl rfl ?_
    refine ev_getfield dX10_about_99 fl_X10_19 (by first | assumption | omega | exact ePp.ob (by assumption) | exact eNm.ob (by assumption) | exact eRg.ob (by assumption) | exact eTx.ob (by assumption) | exact ePa.ob (by assumption)) rfl ?_
    refine ev_getfield dX10_about_102 fl_X10_100 (by first | assumption | omega | exact ePp.ob (by assumption) | exact eNm.ob (by assumption) | exact eRg.ob (by assumption) | exact eTx.ob (by assumption) | exact ePa.ob (by assumption)) rfl ?_
    refine ev_iconst (v := nI 0) dX10_about_105 rfl ?_
    refine ev_callVi dX10_about_106 (c_X2_inState oN hB (by decide)) rfl lk_X10_107 (by first | assumption | omega | exact ePp.ob (by assumption) | exact eNm.ob (by assumption) | exact eRg.ob (by assumption) | exact eTx.ob (by assumption) | exact ePa.ob (by assumption)) ⟨Nat.le_of_ble_eq_true rfl, Nat.le_of_ble_eq_true rfl⟩ rfl (Nat.le_of_ble_eq_true rfl) ⟨by first | exact Nat.le_of_ble_eq_true rfl | omega, by first | exact Nat.le_of_ble_eq_true rfl | omega⟩ (eRo ?_)
    exact ev_iret dX10_about_109 rfl rfl (by subst w; exact nR rfl) (by rfl) (fun _ e => Option.some.inj e) (Nat.le_of_ble_eq_true rfl) (Nat.le_of_ble_eq_true rfl)
  by_cases z_1_3 : w = 3
  · refine ev_tabN (off := 109) (tgt := 110) dX10_about_1 (by rw [z_1_3]; decide) (by rw [z_1_3]; decide) (by rw [z_1_3]; decide) (by rw [z_1_3]; rfl) (by decide) ?_
    refine ev_aload_n dX10_about_110 rfl rfl ?_
    refine ev_getfield dX10_about_111 fl_X10_19 (by first | assumption | omega | exact ePp.ob (by assumption) | exact eNm.ob (by assumption) | exact eRg.ob (by assumption) | exact eTx.ob (by assumption) | exact ePa.ob (by assumption)) rfl ?_
    refine ev_getfield dX10_about_114 fl_X10_100 (by first | assumption | omega | exact ePp.ob (by assumption) | exact eNm.ob (by assumption) | exact eRg.ob (by assumption) | exact eTx.ob (by assumption) | exact ePa.ob (by assumption)) rfl ?_
    refine ev_iconst (v := nI 1) dX10_about_117 rfl ?_
    refine ev_callVi dX10_about_118 (c_X2_inState oN hB (by decide)) rfl lk_X10_107 (by first | assumption | omega | exact ePp.ob (by assumption) | exact eNm.ob (by assumption) | exact eRg.ob (by assumption) | exact eTx.ob (by assumption) | exact ePa.ob (by assumption)) ⟨Nat.le_of_ble_eq_true rfl, Nat.le_of_ble_eq_true rfl⟩ rfl (Nat.le_of_ble_eq_true rfl) ⟨by first | exact Nat.le_of_ble_eq_true rfl | omega, by first | exact Nat.le_of_ble_eq_true rfl | omega⟩ (eRo ?_)
    exact ev_iret dX10_about_121 rfl rfl (by subst w; exact nR rfl) (by rfl) (fun _ e => Option.some.inj e) (Nat.le_of_ble_eq_true rfl) (Nat.le_of_ble_eq_true rfl)
  by_cases z_1_4 : w = 4
  · refine ev_tabN (off := 121) (tgt := 122) dX10_about_1 (by rw [z_1_4]; decide) (by rw [z_1_4]; decide) (by rw [z_1_4]; decide) (by rw [z_1_4]; rfl) (by decide) ?_
    refine ev_aload_n dX10_about_122 rfl rfl ?_
    refine ev_getfield dX10_about_123 fl_X10_19 (by first | assumption | omega | exact ePp.ob (by assumption) | exact eNm.ob (by assumption) | exact eRg.ob (by assumption) | exact eTx.ob (by assumption) | exact ePa.ob (by assumption)) rfl ?_
    refine ev_getfield dX10_about_126 fl_X10_100 (by first | assumption | omega | exact ePp.ob (by assumption) | exact eNm.ob (by assumption) | exact eRg.ob (by assumption) | exact eTx.ob (by assumption) | exact ePa.ob (by assumption)) rfl ?_
    refine ev_iconst (v := nI 2) dX10_about_129 rfl ?_
    refine ev_callVi dX10_about_130 (c_X2_inState oN hB (by decide)) rfl lk_X10_107 (by first | assumption | omega | exact ePp.ob (by assumption) | exact eNm.ob (by assumption) | exact eRg.ob (by assumption) | exact eTx.ob (by assumption) | exact ePa.ob (by assumption)) ⟨Nat.le_of_ble_eq_true rfl, Nat.le_of_ble_eq_true rfl⟩ rfl (Nat.le_of_ble_eq_true rfl) ⟨by first | exact Nat.le_of_ble_eq_true rfl | omega, by first | exact Nat.le_of_ble_eq_true rfl | omega⟩ (eRo ?_)
    exact ev_iret dX10_about_133 rfl rfl (by subst w; exact nR rfl) (by rfl) (fun _ e => Option.some.inj e) (Nat.le_of_ble_eq_true rfl) (Nat.le_of_ble_eq_true rfl)
  by_cases z_1_5 : w = 5
  · refine ev_tabN (off := 133) (tgt := 134) dX10_about_1 (by rw [z_1_5]; decide) (by rw [z_1_5]; decide) (by rw [z_1_5]; decide) (by rw [z_1_5]; rfl) (by decide) ?_
    refine ev_aload_n dX10_about_134 rfl rfl ?_
    refine ev_getfield dX10_about_135 fl_X10_19 (by first | assumption | omega | exact ePp.ob (by assumption) | exact eNm.ob (by assumption) | exact eRg.ob (by assumption) | exact eTx.ob (by assumption) | exact ePa.ob (by assumption)) rfl ?_
    refine ev_getfield dX10_about_138 fl_X10_100 (by first | assumption | omega | exact ePp.ob (by assumption) | exact eNm.ob (by assumption) | exact eRg.ob (by assumption) | exact eTx.ob (by assumption) | exact ePa.ob (by assumption)) rfl ?_
    refine ev_iconst (v := nI 3) dX10_about_141 rfl ?_
    refine ev_callVi dX10_about_142 (c_X2_inState oN hB (by decide)) rfl lk_X10_107 (by first | assumption | omega | exact ePp.ob (by assumption) | exact eNm.ob (by assumption) | exact eRg.ob (by assumption) | exact eTx.ob (by assumption) | exact ePa.ob (by assumption)) ⟨Nat.le_of_ble_eq_true rfl, Nat.le_of_ble_eq_true rfl⟩ rfl (Nat.le_of_ble_eq_true rfl) ⟨by first | exact Nat.le_of_ble_eq_true rfl | omega, by first | exact Nat.le_of_ble_eq_true rfl | omega⟩ (eRo ?_)
    exact ev_iret dX10_about_145 rfl rfl (by subst w; exact nR rfl) (by rfl) (fun _ e => Option.some.inj e) (Nat.le_of_ble_eq_true rfl) (Nat.le_of_ble_eq_true rfl)
  by_cases z_1_6 : w = 6
  · refine ev_tabN (off := 145) (tgt := 146) dX10_about_1 (by rw [z_1_6]; decide) (by rw [z_1_6]; decide) (by rw [z_1_6]; decide) (by rw [z_1_6]; rfl) (by decide) ?_
    refine ev_aload_n dX10_about_146 rfl rfl ?_
    refine ev_getfield dX10_about_147 fl_X10_19 (by first | assumption | omega | exact ePp.ob (by assumption) | exact eNm.ob (by assumption) | exact eRg.ob (by assumption) | exact eTx.ob (by assumption) | exact ePa.ob (by assumption)) rfl ?_
    refine ev_getfield dX10_about_150 fl_X10_100 (by first | assumption | omega | exact ePp.ob (by assumption) | exact eNm.ob (by assumption) | exact eRg.ob (by assumption) | exact eTx.ob (by assumption) | exact ePa.ob (by assumption)) rfl ?_
    refine ev_iconst (v := nI 4) dX10_about_153 rfl ?_
    refine ev_callVi dX10_about_154 (c_X2_inState oN hB (by decide)) rfl lk_X10_107 (by first | assumption | omega | exact ePp.ob (by assumption) | exact eNm.ob (by assumption) | exact eRg.ob (by assumption) | exact eTx.ob (by assumption) | exact ePa.ob (by assumption)) ⟨Nat.le_of_ble_eq_true rfl, Nat.le_of_ble_eq_true rfl⟩ rfl (Nat.le_of_ble_eq_true rfl) ⟨by first | exact Nat.le_of_ble_eq_true rfl | omega, by first | exact Nat.le_of_ble_eq_true rfl | omega⟩ (eRo ?_)
    exact ev_iret dX10_about_157 rfl rfl (by subst w; exact nR rfl) (by rfl) (fun _ e => Option.some.inj e) (Nat.le_of_ble_eq_true rfl) (Nat.le_of_ble_eq_true rfl)
  by_cases z_1_7 : w = 7
  · refine ev_tabN (off := 157) (tgt := 158) dX10_about_1 (by rw [z_1_7]; decide) (by rw [z_1_7]; decide) (by rw [z_1_7]; decide) (by rw [z_1_7]; rfl) (by decide) ?_
    refine ev_aload_n dX10_about_158 rfl rfl ?_
    refine ev_getfield dX10_about_159 fl_X10_19 (by first | assumption | omega | exact ePp.ob (by assumption) | exact eNm.ob (by assumption) | exact eRg.ob (by assumption) | exact eTx.ob (by assumption) | exact ePa.ob (by assumption)) rfl ?_
    refine ev_getfield dX10_about_162 fl_X10_111 (by first | assumption | omega | exact ePp.ob (by assumption) | exact eNm.ob (by assumption) | exact eRg.ob (by assumption) | exact eTx.ob (by assumption) | exact ePa.ob (by assumption)) rfl ?_
    exact ev_iret dX10_about_165 rfl rfl (by subst w; exact nR rfl) (by rfl) (fun _ e => Option.some.inj e) (Nat.le_of_ble_eq_true rfl) (Nat.le_of_ble_eq_true rfl)
  by_cases z_1_8 : w = 8
  · refine ev_tabN (off := 165) (tgt := 166) dX10_about_1 (by rw [z_1_8]; decide) (by rw [z_1_8]; decide) (by rw [z_1_8]; decide) (by rw [z_1_8]; rfl) (by decide) ?_
    refine ev_aload_n dX10_about_166 rfl rfl ?_
    refine ev_getfield dX10_about_167 fl_X10_19 (by first | assumption | omega | exact ePp.ob (by assumption) | exact eNm.ob (by assumption) | exact eRg.ob (by assumption) | exact eTx.ob (by assumption) | exact ePa.ob (by assumption)) rfl ?_
    refine ev_getfield dX10_about_170 fl_X10_100 (by first | assumption | omega | exact ePp.ob (by assumption) | exact eNm.ob (by assumption) | exact eRg.ob (by assumption) | exact eTx.ob (by assumption) | exact ePa.ob (by assumption)) rfl ?_
    refine ev_callVi dX10_about_173 (c_X2_usesTogether oN hB) rfl lk_X10_114 (by first | assumption | omega | exact ePp.ob (by assumption) | exact eNm.ob (by assumption) | exact eRg.ob (by assumption) | exact eTx.ob (by assumption) | exact ePa.ob (by assumption)) ⟨Nat.le_of_ble_eq_true rfl, Nat.le_of_ble_eq_true rfl⟩ rfl (Nat.le_of_ble_eq_true rfl) ⟨by first | exact Nat.le_of_ble_eq_true rfl | omega, by first | exact Nat.le_of_ble_eq_true rfl | omega⟩ (eRo ?_)
    exact ev_iret dX10_about_176 rfl rfl (by subst w; exact nR rfl) (by rfl) (fun _ e => Option.some.inj e) (Nat.le_of_ble_eq_true rfl) (Nat.le_of_ble_eq_true rfl)
  by_cases z_1_9 : w = 9
  · refine ev_tabN (off := 176) (tgt := 177) dX10_about_1 (by rw [z_1_9]; decide) (by rw [z_1_9]; decide) (by rw [z_1_9]; decide) (by rw [z_1_9]; rfl) (by decide) ?_
    refine ev_aload_n dX10_about_177 rfl rfl ?_
    refine ev_getfield dX10_about_178 fl_X10_19 (by first | assumption | omega | exact ePp.ob (by assumption) | exact eNm.ob (by assumption) | exact eRg.ob (by assumption) | exact eTx.ob (by assumption) | exact ePa.ob (by assumption)) rfl ?_
    refine ev_getfield dX10_about_181 fl_X10_117 (by first | assumption | omega | exact ePp.ob (by assumption) | exact eNm.ob (by assumption) | exact eRg.ob (by assumption) | exact eTx.ob (by assumption) | exact ePa.ob (by assumption)) rfl ?_
    exact ev_iret dX10_about_184 rfl rfl (by subst w; exact nR rfl) (by rfl) (fun _ e => Option.some.inj e) (Nat.le_of_ble_eq_true rfl) (Nat.le_of_ble_eq_true rfl)
  by_cases z_1_10 : w = 10
  · refine ev_tabN (off := 184) (tgt := 185) dX10_about_1 (by rw [z_1_10]; decide) (by rw [z_1_10]; decide) (by rw [z_1_10]; decide) (by rw [z_1_10]; rfl) (by decide) ?_
    refine ev_aload_n dX10_about_185 rfl rfl ?_
    refine ev_getfield dX10_about_186 fl_X10_19 (by first | assumption | omega | exact ePp.ob (by assumption) | exact eNm.ob (by assumption) | exact eRg.ob (by assumption) | exact eTx.ob (by assumption) | exact ePa.ob (by assumption)) rfl ?_
    refine ev_getfield dX10_about_189 fl_X10_120 (by first | assumption | omega | exact ePp.ob (by assumption) | exact eNm.ob (by assumption) | exact eRg.ob (by assumption) | exact eTx.ob (by assumption) | exact ePa.ob (by assumption)) rfl ?_
    exact ev_iret dX10_about_192 rfl rfl (by subst w; exact nR rfl) (by rfl) (fun _ e => Option.some.inj e) (Nat.le_of_ble_eq_true rfl) (Nat.le_of_ble_eq_true rfl)
  by_cases z_1_11 : w = 11
  · refine ev_tabN (off := 192) (tgt := 193) dX10_about_1 (by rw [z_1_11]; decide) (by rw [z_1_11]; decide) (by rw [z_1_11]; decide) (by rw [z_1_11]; rfl) (by decide) ?_
    refine ev_aload_n dX10_about_193 rfl rfl ?_
    refine ev_getfield dX10_about_194 fl_X10_19 (by first | assumption | omega | exact ePp.ob (by assumption) | exact eNm.ob (by assumption) | exact eRg.ob (by assumption) | exact eTx.ob (by assumption) | exact ePa.ob (by assumption)) rfl ?_
    refine ev_getfield dX10_about_197 fl_X10_123 (by first | assumption | omega | exact ePp.ob (by assumption) | exact eNm.ob (by assumption) | exact eRg.ob (by assumption) | exact eTx.ob (by assumption) | exact ePa.ob (by assumption)) rfl ?_
    exact ev_iret dX10_about_200 rfl rfl (by subst w; exact nR rfl) (by rfl) (fun _ e => Option.some.inj e) (Nat.le_of_ble_eq_true rfl) (Nat.le_of_ble_eq_true rfl)
  by_cases z_1_12 : w = 12
  · refine ev_tabN (off := 200) (tgt := 201) dX10_about_1 (by rw [z_1_12]; decide) (by rw [z_1_12]; decide) (by rw [z_1_12]; decide) (by rw [z_1_12]; rfl) (by decide) ?_
    refine ev_aload_n dX10_about_201 rfl rfl ?_
    refine ev_getfield dX10_about_202 fl_X10_19 (by first | assumption | omega | exact ePp.ob (by assumption) | exact eNm.ob (by assumption) | exact eRg.ob (by assumption) | exact eTx.ob (by assumption) | exact ePa.ob (by assumption)) rfl ?_
    refine ev_getfield dX10_about_205 fl_X10_126 (by first | assumption | omega | exact ePp.ob (by assumption) | exact eNm.ob (by assumption) | exact eRg.ob (by assumption) | exact eTx.ob (by assumption) | exact ePa.ob (by assumption)) rfl ?_
    refine ev_iconst (v := nI 0) dX10_about_208 rfl ?_
    refine ev_ialoadA dX10_about_209 (by first | assumption | omega | exact ePp.ob (by assumption) | exact eNm.ob (by assumption) | exact eRg.ob (by assumption) | exact eTx.ob (by assumption) | exact ePa.ob (by assumption)) (by first | assumption | omega | exact ePp.ob (by assumption) | exact eNm.ob (by assumption) | exact eRg.ob (by assumption) | exact eTx.ob (by assumption) | exact ePa.ob (by assumption)) ?_
    exact ev_iret dX10_about_210 rfl rfl (by subst w; exact nR rfl) (by rfl) (fun _ e => Option.some.inj e) (Nat.le_of_ble_eq_true rfl) (Nat.le_of_ble_eq_true rfl)
  by_cases z_1_13 : w = 13
  · refine ev_tabN (off := 210) (tgt := 211) dX10_about_1 (by rw [z_1_13]; decide) (by rw [z_1_13]; decide) (by rw [z_1_13]; decide) (by rw [z_1_13]; rfl) (by decide) ?_
    refine ev_aload_n dX10_about_211 rfl rfl ?_
    refine ev_getfield dX10_about_212 fl_X10_19 (by first | assumption | omega | exact ePp.ob (by assumption) | exact eNm.ob (by assumption) | exact eRg.ob (by assumption) | exact eTx.ob (by assumption) | exact ePa.ob (by assumption)) rfl ?_
    refine ev_getfield dX10_about_215 fl_X10_126 (by first | assumption | omega | exact ePp.ob (by assumption) | exact eNm.ob (by assumption) | exact eRg.ob (by assumption) | exact eTx.ob (by assumption) | exact ePa.ob (by assumption)) rfl ?_
    refine ev_iconst (v := nI 1) dX10_about_218 rfl ?_
    refine ev_ialoadA dX10_about_219 (by first | assumption | omega | exact ePp.ob (by assumption) | exact eNm.ob (by assumption) | exact eRg.ob (by assumption) | exact eTx.ob (by assumption) | exact ePa.ob (by assumption)) (by first | assumption | omega | exact ePp.ob (by assumption) | exact eNm.ob (by assumption) | exact eRg.ob (by assumption) | exact eTx.ob (by assumption) | exact ePa.ob (by assumption)) ?_
    exact ev_iret dX10_about_220 rfl rfl (by subst w; exact nR rfl) (by rfl) (fun _ e => Option.some.inj e) (Nat.le_of_ble_eq_true rfl) (Nat.le_of_ble_eq_true rfl)
  by_cases z_1_14 : w = 14
  · refine ev_tabN (off := 220) (tgt := 221) dX10_about_1 (by rw [z_1_14]; decide) (by rw [z_1_14]; decide) (by rw [z_1_14]; decide) (by rw [z_1_14]; rfl) (by decide) ?_
    refine ev_aload_n dX10_about_221 rfl rfl ?_
    refine ev_getfield dX10_about_222 fl_X10_19 (by first | assumption | omega | exact ePp.ob (by assumption) | exact eNm.ob (by assumption) | exact eRg.ob (by assumption) | exact eTx.ob (by assumption) | exact ePa.ob (by assumption)) rfl ?_
    refine ev_getfield dX10_about_225 fl_X10_126 (by first | assumption | omega | exact ePp.ob (by assumption) | exact eNm.ob (by assumption) | exact eRg.ob (by assumption) | exact eTx.ob (by assumption) | exact ePa.ob (by assumption)) rfl ?_
    refine ev_iconst (v := nI 2) dX10_about_228 rfl ?_
    refine ev_ialoadA dX10_about_229 (by first | assumption | omega | exact ePp.ob (by assumption) | exact eNm.ob (by assumption) | exact eRg.ob (by assumption) | exact eTx.ob (by assumption) | exact ePa.ob (by assumption)) (by first | assumption | omega | exact ePp.ob (by assumption) | exact eNm.ob (by assumption) | exact eRg.ob (by assumption) | exact eTx.ob (by assumption) | exact ePa.ob (by assumption)) ?_
    exact ev_iret dX10_about_230 rfl rfl (by subst w; exact nR rfl) (by rfl) (fun _ e => Option.some.inj e) (Nat.le_of_ble_eq_true rfl) (Nat.le_of_ble_eq_true rfl)
  refine ev_tabOutN (tgt := 231) dX10_about_1 (by omega) (by omega) (by decide) ?_
  exact absurd hw (by omega)
set_option maxHeartbeats 4000000 in
set_option maxRecDepth 20000 in
theorem c_X10_about_n {h : eH} {n b : Nat} {x : Int32} (hx : ¬ (0 ≤ x.toInt ∧ x.toInt < (15 : Nat))) : kX10_about [.ref b, .int x] h n (.inr "java/lang/IllegalArgumentException", (· = h), none) 1 6 := by
  refine eM.of RX10 "about" [(0, .ref b), (1, .int x)] pn_X10 rfl rfl (Nat.le_of_ble_eq_true rfl) rfl ?_
  refine ev_iload_n dX10_about_0 rfl rfl ?_
  refine ev_tableOut (tgt := 231) dX10_about_1 (by omega) (by decide) ?_
  exact ev_throwS (text := "what is 0 to 14") dX10_about_231 dX10_about_234 dX10_about_235 dX10_about_237 dX10_about_240 (by decide +kernel) (by decide +kernel) wk_X10_47 wi_java_lang_IllegalArgumentException (by decide +kernel) th_X10_51 tg_X10_47_51 rfl (Nat.le_of_ble_eq_true rfl) (Nat.le_of_ble_eq_true rfl) (Nat.le_of_ble_eq_true rfl) (Nat.le_of_ble_eq_true rfl) rfl (by rfl)
set_option maxHeartbeats 4000000 in
set_option maxRecDepth 20000 in
theorem c_X10_personOf {h : eH} {n b ℓ c p w : Nat} {σ : St} {x : Nat → Nat} {τ τs : Nat → St} {us : Nat → Nat} (hO : eNB h b σ x ℓ c τ us τs) (hB : eB σ) (hp : p < σ 0 0) (hw : w < 9) : kX10_personOf [.ref b, .int (nI p), .int (nI w)] h n (.inl (some (.int (nI (sPersonOf σ p w)))), (· = h), some n) 0 0 := by
  refine eM.of RX10 "personOf" [(0, .ref b), (1, .int (nI p)), (2, .int (nI w))] pn_X10 rfl rfl (Nat.le_of_ble_eq_true rfl) rfl ?_
  obtain ⟨o0, -, oR, -⟩ := id hO
  obtain ⟨r0, oPp, oN, oS⟩ := id oR
  obtain ⟨p0, p1, p2, p3, p4, p5⟩ := id oPp
  obtain ⟨n0, -⟩ := id oN
  have hp31 : p < 2 ^ 31 := Nat.lt_trans hp (hB 0 0)
  refine ev_aload_n dX10_personOf_0 rfl rfl ?_
  refine ev_iload_n dX10_personOf_1 rfl rfl ?_
  refine ev_callVv dX10_personOf_2 (c_X10_requirePerson hO hB hp) rfl lk_X10_132 (by first | assumption | omega | exact ePp.ob (by assumption) | exact eNm.ob (by assumption) | exact eRg.ob (by assumption) | exact eTx.ob (by assumption) | exact ePa.ob (by assumption)) ⟨Nat.le_of_ble_eq_true rfl, Nat.le_of_ble_eq_true rfl⟩ rfl (Nat.le_of_ble_eq_true rfl) ⟨by first | exact Nat.le_of_ble_eq_true rfl | omega, by first | exact Nat.le_of_ble_eq_true rfl | omega⟩ (eRo ?_)
  refine ev_iload_n dX10_personOf_5 rfl rfl ?_
  by_cases z_6_0 : w = 0
  · refine ev_tabN (off := 50) (tgt := 56) dX10_personOf_6 (by rw [z_6_0]; decide) (by rw [z_6_0]; decide) (by rw [z_6_0]; decide) (by rw [z_6_0]; rfl) (by decide) ?_
    refine ev_aload_n dX10_personOf_56 rfl rfl ?_
    refine ev_getfield dX10_personOf_57 fl_X10_19 (by first | assumption | omega | exact ePp.ob (by assumption) | exact eNm.ob (by assumption) | exact eRg.ob (by assumption) | exact eTx.ob (by assumption) | exact ePa.ob (by assumption)) rfl ?_
    refine ev_getfield dX10_personOf_60 fl_X10_91 (by first | assumption | omega | exact ePp.ob (by assumption) | exact eNm.ob (by assumption) | exact eRg.ob (by assumption) | exact eTx.ob (by assumption) | exact ePa.ob (by assumption)) rfl ?_
    refine ev_getfield dX10_personOf_63 fl_X10_136 (by first | assumption | omega | exact ePp.ob (by assumption) | exact eNm.ob (by assumption) | exact eRg.ob (by assumption) | exact eTx.ob (by assumption) | exact ePa.ob (by assumption)) rfl ?_
    refine ev_iload_n dX10_personOf_66 rfl rfl ?_
    refine ev_ialoadA dX10_personOf_67 (by first | assumption | omega | exact ePp.ob (by assumption) | exact eNm.ob (by assumption) | exact eRg.ob (by assumption) | exact eTx.ob (by assumption) | exact ePa.ob (by assumption)) (by first | assumption | omega | exact ePp.ob (by assumption) | exact eNm.ob (by assumption) | exact eRg.ob (by assumption) | exact eTx.ob (by assumption) | exact ePa.ob (by assumption)) ?_
    exact ev_iret dX10_personOf_68 rfl rfl (by subst w; exact nR rfl) (by rfl) (fun _ e => Option.some.inj e) (Nat.le_of_ble_eq_true rfl) (Nat.le_of_ble_eq_true rfl)
  by_cases z_6_1 : w = 1
  · refine ev_tabN (off := 63) (tgt := 69) dX10_personOf_6 (by rw [z_6_1]; decide) (by rw [z_6_1]; decide) (by rw [z_6_1]; decide) (by rw [z_6_1]; rfl) (by decide) ?_
    refine ev_aload_n dX10_personOf_69 rfl rfl ?_
    refine ev_getfield dX10_personOf_70 fl_X10_19 (by first | assumption | omega | exact ePp.ob (by assumption) | exact eNm.ob (by assumption) | exact eRg.ob (by assumption) | exact eTx.ob (by assumption) | exact ePa.ob (by assumption)) rfl ?_
    refine ev_getfield dX10_personOf_73 fl_X10_91 (by first | assumption | omega | exact ePp.ob (by assumption) | exact eNm.ob (by assumption) | exact eRg.ob (by assumption) | exact eTx.ob (by assumption) | exact ePa.ob (by assumption)) rfl ?_
    refine ev_getfield dX10_personOf_76 fl_X10_139 (by first | assumption | omega | exact ePp.ob (by assumption) | exact eNm.ob (by assumption) | exact eRg.ob (by assumption) | exact eTx.ob (by assumption) | exact ePa.ob (by assumption)) rfl ?_
    refine ev_iload_n dX10_personOf_79 rfl rfl ?_
    refine ev_ialoadA dX10_personOf_80 (by first | assumption | omega | exact ePp.ob (by assumption) | exact eNm.ob (by assumption) | exact eRg.ob (by assumption) | exact eTx.ob (by assumption) | exact ePa.ob (by assumption)) (by first | assumption | omega | exact ePp.ob (by assumption) | exact eNm.ob (by assumption) | exact eRg.ob (by assumption) | exact eTx.ob (by assumption) | exact ePa.ob (by assumption)) ?_
    exact ev_iret dX10_personOf_81 rfl rfl (by subst w; exact nR rfl) (by rfl) (fun _ e => Option.some.inj e) (Nat.le_of_ble_eq_true rfl) (Nat.le_of_ble_eq_true rfl)
  by_cases z_6_2 : w = 2
  · refine ev_tabN (off := 76) (tgt := 82) dX10_personOf_6 (by rw [z_6_2]; decide) (by rw [z_6_2]; decide) (by rw [z_6_2]; decide) (by rw [z_6_2]; rfl) (by decide) ?_
    refine ev_aload_n dX10_personOf_82 rfl rfl ?_
    refine ev_getfield dX10_personOf_83 fl_X10_19 (by first | assumption | omega | exact ePp.ob (by assumption) | exact eNm.ob (by assumption) | exact eRg.ob (by assumption) | exact eTx.ob (by assumption) | exact ePa.ob (by assumption)) rfl ?_
    refine ev_getfield dX10_personOf_86 fl_X10_91 (by first | assumption | omega | exact ePp.ob (by assumption) | exact eNm.ob (by assumption) | exact eRg.ob (by assumption) | exact eTx.ob (by assumption) | exact ePa.ob (by assumption)) rfl ?_
    refine ev_getfield dX10_personOf_89 fl_X10_142 (by first | assumption | omega | exact ePp.ob (by assumption) | exact eNm.ob (by assumption) | exact eRg.ob (by assumption) | exact eTx.ob (by assumption) | exact ePa.ob (by assumption)) rfl ?_
    refine ev_iload_n dX10_personOf_92 rfl rfl ?_
    refine ev_ialoadA dX10_personOf_93 (by first | assumption | omega | exact ePp.ob (by assumption) | exact eNm.ob (by assumption) | exact eRg.ob (by assumption) | exact eTx.ob (by assumption) | exact ePa.ob (by assumption)) (by first | assumption | omega | exact ePp.ob (by assumption) | exact eNm.ob (by assumption) | exact eRg.ob (by assumption) | exact eTx.ob (by assumption) | exact ePa.ob (by assumption)) ?_
    exact ev_iret dX10_personOf_94 rfl rfl (by subst w; exact nR rfl) (by rfl) (fun _ e => Option.some.inj e) (Nat.le_of_ble_eq_true rfl) (Nat.le_of_ble_eq_true rfl)
  by_cases z_6_3 : w = 3
  · refine ev_tabN (off := 89) (tgt := 95) dX10_personOf_6 (by rw [z_6_3]; decide) (by rw [z_6_3]; decide) (by rw [z_6_3]; decide) (by rw [z_6_3]; rfl) (by decide) ?_
    refine ev_aload_n dX10_personOf_95 rfl rfl ?_
    refine ev_getfield dX10_personOf_96 fl_X10_19 (by first | assumption | omega | exact ePp.ob (by assumption) | exact eNm.ob (by assumption) | exact eRg.ob (by assumption) | exact eTx.ob (by assumption) | exact ePa.ob (by assumption)) rfl ?_
    refine ev_getfield dX10_personOf_99 fl_X10_100 (by first | assumption | omega | exact ePp.ob (by assumption) | exact eNm.ob (by assumption) | exact eRg.ob (by assumption) | exact eTx.ob (by assumption) | exact ePa.ob (by assumption)) rfl ?_
    refine ev_iload_n dX10_personOf_102 rfl rfl ?_
    refine ev_callVi dX10_personOf_103 (c_X2_aliveOf oN hB hp31) rfl lk_X10_145 (by first | assumption | omega | exact ePp.ob (by assumption) | exact eNm.ob (by assumption) | exact eRg.ob (by assumption) | exact eTx.ob (by assumption) | exact ePa.ob (by assumption)) ⟨Nat.le_of_ble_eq_true rfl, Nat.le_of_ble_eq_true rfl⟩ rfl (Nat.le_of_ble_eq_true rfl) ⟨by first | exact Nat.le_of_ble_eq_true rfl | omega, by first | exact Nat.le_of_ble_eq_true rfl | omega⟩ (eRo ?_)
    exact ev_iret dX10_personOf_106 rfl rfl (by subst w; exact nR rfl) (by rfl) (fun _ e => Option.some.inj e) (Nat.le_of_ble_eq_true rfl) (Nat.le_of_ble_eq_true rfl)
  by_cases z_6_4 : w = 4
  · refine ev_tabN (off := 101) (tgt := 107) dX10_personOf_6 (by rw [z_6_4]; decide) (by rw [z_6_4]; decide) (by rw [z_6_4]; decide) (by rw [z_6_4]; rfl) (by decide) ?_
    refine ev_aload_n dX10_personOf_107 rfl rfl ?_
    refine ev_getfield dX10_personOf_108 fl_X10_19 (by first | assumption | omega | exact ePp.ob (by assumption) | exact eNm.ob (by assumption) | exact eRg.ob (by assumption) | exact eTx.ob (by assumption) | exact ePa.ob (by assumption)) rfl ?_
    refine ev_getfield dX10_personOf_111 fl_X10_91 (by first | assumption | omega | exact ePp.ob (by assumption) | exact eNm.ob (by assumption) | exact eRg.ob (by assumption) | exact eTx.ob (by assumption) | exact ePa.ob (by assumption)) rfl ?_
    refine ev_iload_n dX10_personOf_114 rfl rfl ?_
    refine ev_callVi dX10_personOf_115 (c_X4_brothersOf oPp hB hp) rfl lk_X10_148 (by first | assumption | omega | exact ePp.ob (by assumption) | exact eNm.ob (by assumption) | exact eRg.ob (by assumption) | exact eTx.ob (by assumption) | exact ePa.ob (by assumption)) ⟨Nat.le_of_ble_eq_true rfl, Nat.le_of_ble_eq_true rfl⟩ rfl (Nat.le_of_ble_eq_true rfl) ⟨by first | exact Nat.le_of_ble_eq_true rfl | omega, by first | exact Nat.le_of_ble_eq_true rfl | omega⟩ (eRo ?_)
    exact ev_iret dX10_personOf_118 rfl rfl (by subst w; exact nR rfl) (by rfl) (fun _ e => Option.some.inj e) (Nat.le_of_ble_eq_true rfl) (Nat.le_of_ble_eq_true rfl)
  by_cases z_6_5 : w = 5
  · refine ev_tabN (off := 113) (tgt := 119) dX10_personOf_6 (by rw [z_6_5]; decide) (by rw [z_6_5]; decide) (by rw [z_6_5]; decide) (by rw [z_6_5]; rfl) (by decide) ?_
    refine ev_aload_n dX10_personOf_119 rfl rfl ?_
    refine ev_getfield dX10_personOf_120 fl_X10_19 (by first | assumption | omega | exact ePp.ob (by assumption) | exact eNm.ob (by assumption) | exact eRg.ob (by assumption) | exact eTx.ob (by assumption) | exact ePa.ob (by assumption)) rfl ?_
    refine ev_getfield dX10_personOf_123 fl_X10_100 (by first | assumption | omega | exact ePp.ob (by assumption) | exact eNm.ob (by assumption) | exact eRg.ob (by assumption) | exact eTx.ob (by assumption) | exact ePa.ob (by assumption)) rfl ?_
    refine ev_iload_n dX10_personOf_126 rfl rfl ?_
    refine ev_callVi dX10_personOf_127 (c_X2_givenBy oN hB hp31) rfl lk_X10_151 (by first | assumption | omega | exact ePp.ob (by assumption) | exact eNm.ob (by assumption) | exact eRg.ob (by assumption) | exact eTx.ob (by assumption) | exact ePa.ob (by assumption)) ⟨Nat.le_of_ble_eq_true rfl, Nat.le_of_ble_eq_true rfl⟩ rfl (Nat.le_of_ble_eq_true rfl) ⟨by first | exact Nat.le_of_ble_eq_true rfl | omega, by first | exact Nat.le_of_ble_eq_true rfl | omega⟩ (eRo ?_)
    exact ev_iret dX10_personOf_130 rfl rfl (by subst w; exact nR rfl) (by rfl) (fun _ e => Option.some.inj e) (Nat.le_of_ble_eq_true rfl) (Nat.le_of_ble_eq_true rfl)
  by_cases z_6_6 : w = 6
  · refine ev_tabN (off := 125) (tgt := 131) dX10_personOf_6 (by rw [z_6_6]; decide) (by rw [z_6_6]; decide) (by rw [z_6_6]; decide) (by rw [z_6_6]; rfl) (by decide) ?_
    refine ev_aload_n dX10_personOf_131 rfl rfl ?_
    refine ev_getfield dX10_personOf_132 fl_X10_19 (by first | assumption | omega | exact ePp.ob (by assumption) | exact eNm.ob (by assumption) | exact eRg.ob (by assumption) | exact eTx.ob (by assumption) | exact ePa.ob (by assumption)) rfl ?_
    refine ev_getfield dX10_personOf_135 fl_X10_100 (by first | assumption | omega | exact ePp.ob (by assumption) | exact eNm.ob (by assumption) | exact eRg.ob (by assumption) | exact eTx.ob (by assumption) | exact ePa.ob (by assumption)) rfl ?_
    refine ev_iload_n dX10_personOf_138 rfl rfl ?_
    refine ev_callVi dX10_personOf_139 (c_X2_stuckGivenBy oN hB hp31) rfl lk_X10_154 (by first | assumption | omega | exact ePp.ob (by assumption) | exact eNm.ob (by assumption) | exact eRg.ob (by assumption) | exact eTx.ob (by assumption) | exact ePa.ob (by assumption)) ⟨Nat.le_of_ble_eq_true rfl, Nat.le_of_ble_eq_true rfl⟩ rfl (Nat.le_of_ble_eq_true rfl) ⟨by first | exact Nat.le_of_ble_eq_true rfl | omega, by first | exact Nat.le_of_ble_eq_true rfl | omega⟩ (eRo ?_)
    exact ev_iret dX10_personOf_142 rfl rfl (by subst w; exact nR rfl) (by rfl) (fun _ e => Option.some.inj e) (Nat.le_of_ble_eq_true rfl) (Nat.le_of_ble_eq_true rfl)
  by_cases z_6_7 : w = 7
  · refine ev_tabN (off := 137) (tgt := 143) dX10_personOf_6 (by rw [z_6_7]; decide) (by rw [z_6_7]; decide) (by rw [z_6_7]; decide) (by rw [z_6_7]; rfl) (by decide) ?_
    refine ev_aload_n dX10_personOf_143 rfl rfl ?_
    refine ev_getfield dX10_personOf_144 fl_X10_19 (by first | assumption | omega | exact ePp.ob (by assumption) | exact eNm.ob (by assumption) | exact eRg.ob (by assumption) | exact eTx.ob (by assumption) | exact ePa.ob (by assumption)) rfl ?_
    refine ev_getfield dX10_personOf_147 fl_X10_91 (by first | assumption | omega | exact ePp.ob (by assumption) | exact eNm.ob (by assumption) | exact eRg.ob (by assumption) | exact eTx.ob (by assumption) | exact ePa.ob (by assumption)) rfl ?_
    refine ev_getfield dX10_personOf_150 fl_X10_157 (by first | assumption | omega | exact ePp.ob (by assumption) | exact eNm.ob (by assumption) | exact eRg.ob (by assumption) | exact eTx.ob (by assumption) | exact ePa.ob (by assumption)) rfl ?_
    refine ev_iload_n dX10_personOf_153 rfl rfl ?_
    refine ev_ialoadA dX10_personOf_154 (by first | assumption | omega | exact ePp.ob (by assumption) | exact eNm.ob (by assumption) | exact eRg.ob (by assumption) | exact eTx.ob (by assumption) | exact ePa.ob (by assumption)) (by first | assumption | omega | exact ePp.ob (by assumption) | exact eNm.ob (by assumption) | exact eRg.ob (by assumption) | exact eTx.ob (by assumption) | exact ePa.ob (by assumption)) ?_
    exact ev_iret dX10_personOf_155 rfl rfl (by subst w; exact nR rfl) (by rfl) (fun _ e => Option.some.inj e) (Nat.le_of_ble_eq_true rfl) (Nat.le_of_ble_eq_true rfl)
  by_cases z_6_8 : w = 8
  · refine ev_tabN (off := 150) (tgt := 156) dX10_personOf_6 (by rw [z_6_8]; decide) (by rw [z_6_8]; decide) (by rw [z_6_8]; decide) (by rw [z_6_8]; rfl) (by decide) ?_
    refine ev_aload_n dX10_personOf_156 rfl rfl ?_
    refine ev_getfield dX10_personOf_157 fl_X10_19 (by first | assumption | omega | exact ePp.ob (by assumption) | exact eNm.ob (by assumption) | exact eRg.ob (by assumption) | exact eTx.ob (by assumption) | exact ePa.ob (by assumption)) rfl ?_
    refine ev_getfield dX10_personOf_160 fl_X10_91 (by first | assumption | omega | exact ePp.ob (by assumption) | exact eNm.ob (by assumption) | exact eRg.ob (by assumption) | exact eTx.ob (by assumption) | exact ePa.ob (by assumption)) rfl ?_
    refine ev_getfield dX10_personOf_163 fl_X10_160 (by first | assumption | omega | exact ePp.ob (by assumption) | exact eNm.ob (by assumption) | exact eRg.ob (by assumption) | exact eTx.ob (by assumption) | exact ePa.ob (by assumption)) rfl ?_
    refine ev_iload_n dX10_personOf_166 rfl rfl ?_
    refine ev_ialoadA dX10_personOf_167 (by first | assumption | omega | exact ePp.ob (by assumption) | exact eNm.ob (by assumption) | exact eRg.ob (by assumption) | exact eTx.ob (by assumption) | exact ePa.ob (by assumption)) (by first | assumption | omega | exact ePp.ob (by assumption) | exact eNm.ob (by assumption) | exact eRg.ob (by assumption) | exact eTx.ob (by assumption) | exact ePa.ob (by assumption)) ?_
    exact ev_iret dX10_personOf_168 rfl rfl (by subst w; exact nR rfl) (by rfl) (fun _ e => Option.some.inj e) (Nat.le_of_ble_eq_true rfl) (Nat.le_of_ble_eq_true rfl)
  refine ev_tabOutN (tgt := 169) dX10_personOf_6 (by omega) (by omega) (by decide) ?_
  exact absurd hw (by omega)
set_option maxHeartbeats 4000000 in
set_option maxRecDepth 20000 in
theorem c_X10_personOf_1 {h : eH} {n b ℓ c : Nat} {z y : Int32} {σ : St} {x : Nat → Nat} {τ τs : Nat → St} {us : Nat → Nat} (hO : eNB h b σ x ℓ c τ us τs) (hB : eB σ) (hz : ¬ (0 ≤ z.toInt ∧ z.toInt < (σ 0 0 : Int))) : kX10_personOf [.ref b, .int z, .int y] h n (.inr "java/lang/IndexOutOfBoundsException", (· = h), none) 1 6 := by
  refine eM.of RX10 "personOf" [(0, .ref b), (1, .int z), (2, .int y)] pn_X10 rfl rfl (Nat.le_of_ble_eq_true rfl) rfl ?_
  have o0 := hO.1
  refine ev_aload_n dX10_personOf_0 rfl rfl ?_
  refine ev_iload_n dX10_personOf_1 rfl rfl ?_
  refine ev_callVx dX10_personOf_2 (c_X10_requirePerson_n hO hB hz) rfl lk_X10_132 (by first | assumption | omega | exact ePp.ob (by assumption) | exact eNm.ob (by assumption) | exact eRg.ob (by assumption) | exact eTx.ob (by assumption) | exact ePa.ob (by assumption)) ⟨Nat.le_of_ble_eq_true rfl, Nat.le_of_ble_eq_true rfl⟩ rfl (Nat.le_of_ble_eq_true rfl) ⟨by first | exact Nat.le_of_ble_eq_true rfl | omega, by first | exact Nat.le_of_ble_eq_true rfl | omega⟩ rfl rfl (fun _ hg_2 => hg_2)
set_option maxHeartbeats 4000000 in
set_option maxRecDepth 20000 in
theorem c_X10_personOf_2 {h : eH} {n b ℓ c p : Nat} {y : Int32} {σ : St} {x : Nat → Nat} {τ τs : Nat → St} {us : Nat → Nat} (hO : eNB h b σ x ℓ c τ us τs) (hB : eB σ) (hp : p < σ 0 0) (hy : ¬ (0 ≤ y.toInt ∧ y.toInt < (9 : Nat))) : kX10_personOf [.ref b, .int (nI p), .int y] h n (.inr "java/lang/IllegalArgumentException", (· = h), none) 1 6 := by
  refine eM.of RX10 "personOf" [(0, .ref b), (1, .int (nI p)), (2, .int y)] pn_X10 rfl rfl (Nat.le_of_ble_eq_true rfl) rfl ?_
  have o0 := hO.1
  refine ev_aload_n dX10_personOf_0 rfl rfl ?_
  refine ev_iload_n dX10_personOf_1 rfl rfl ?_
  refine ev_callVv dX10_personOf_2 (c_X10_requirePerson hO hB hp) rfl lk_X10_132 (by first | assumption | omega | exact ePp.ob (by assumption) | exact eNm.ob (by assumption) | exact eRg.ob (by assumption) | exact eTx.ob (by assumption) | exact ePa.ob (by assumption)) ⟨Nat.le_of_ble_eq_true rfl, Nat.le_of_ble_eq_true rfl⟩ rfl (Nat.le_of_ble_eq_true rfl) ⟨by first | exact Nat.le_of_ble_eq_true rfl | omega, by first | exact Nat.le_of_ble_eq_true rfl | omega⟩ (eRo ?_)
  refine ev_iload_n dX10_personOf_5 rfl rfl ?_
  refine ev_tableOut (tgt := 169) dX10_personOf_6 (by omega) (by decide) ?_
  exact ev_throwS (text := "what is 0 to 8") dX10_personOf_169 dX10_personOf_172 dX10_personOf_173 dX10_personOf_175 dX10_personOf_178 (by decide +kernel) (by decide +kernel) wk_X10_47 wi_java_lang_IllegalArgumentException (by decide +kernel) th_X10_51 tg_X10_47_51 rfl (Nat.le_of_ble_eq_true rfl) (Nat.le_of_ble_eq_true rfl) (Nat.le_of_ble_eq_true rfl) (Nat.le_of_ble_eq_true rfl) rfl (by rfl)
set_option maxHeartbeats 4000000 in
set_option maxRecDepth 20000 in
theorem c_X10_nameOf {h : eH} {n b ℓ c p w : Nat} {σ : St} {x : Nat → Nat} {τ τs : Nat → St} {us : Nat → Nat} (hO : eNB h b σ x ℓ c τ us τs) (hK : eOK σ) (hp : p < σ 0 1) (hw : w < 8) : kX10_nameOf [.ref b, .int (nI p), .int (nI w)] h n (.inl (some (.int (nI (σ (6 + w) p)))), (· = h), some n) 0 0 := by
  refine eM.of RX10 "nameOf" [(0, .ref b), (1, .int (nI p)), (2, .int (nI w))] pn_X10 rfl rfl (Nat.le_of_ble_eq_true rfl) rfl ?_
  have hB : eB σ := hK.1
  have h13 : σ 13 p ≤ 1 := (hK.2.2.2.1 p hp).2.2.2.2.2.2.1
  obtain ⟨o0, -, oR, -⟩ := id hO
  obtain ⟨r0, oPp, oN, oS⟩ := id oR
  obtain ⟨n0, n1, n2, n3, n4, n5, n6, n7, n8, n9⟩ := id oN
  refine ev_aload_n dX10_nameOf_0 rfl rfl ?_
  refine ev_iload_n dX10_nameOf_1 rfl rfl ?_
  refine ev_callVv dX10_nameOf_2 (c_X10_requireName hO hB hp) rfl lk_X10_165 (by first | assumption | omega | exact ePp.ob (by assumption) | exact eNm.ob (by assumption) | exact eRg.ob (by assumption) | exact eTx.ob (by assumption) | exact ePa.ob (by assumption)) ⟨Nat.le_of_ble_eq_true rfl, Nat.le_of_ble_eq_true rfl⟩ rfl (Nat.le_of_ble_eq_true rfl) ⟨by first | exact Nat.le_of_ble_eq_true rfl | omega, by first | exact Nat.le_of_ble_eq_true rfl | omega⟩ (eRo ?_)
  refine ev_iload_n dX10_nameOf_5 rfl rfl ?_
  by_cases z_6_0 : w = 0
  · refine ev_tabN (off := 46) (tgt := 52) dX10_nameOf_6 (by rw [z_6_0]; decide) (by rw [z_6_0]; decide) (by rw [z_6_0]; decide) (by rw [z_6_0]; rfl) (by decide) ?_
    refine ev_aload_n dX10_nameOf_52 rfl rfl ?_
    refine ev_getfield dX10_nameOf_53 fl_X10_19 (by first | assumption | omega | exact ePp.ob (by assumption) | exact eNm.ob (by assumption) | exact eRg.ob (by assumption) | exact eTx.ob (by assumption) | exact ePa.ob (by assumption)) rfl ?_
    refine ev_getfield dX10_nameOf_56 fl_X10_100 (by first | assumption | omega | exact ePp.ob (by assumption) | exact eNm.ob (by assumption) | exact eRg.ob (by assumption) | exact eTx.ob (by assumption) | exact ePa.ob (by assumption)) rfl ?_
    refine ev_getfield dX10_nameOf_59 fl_X10_168 (by first | assumption | omega | exact ePp.ob (by assumption) | exact eNm.ob (by assumption) | exact eRg.ob (by assumption) | exact eTx.ob (by assumption) | exact ePa.ob (by assumption)) rfl ?_
    refine ev_iload_n dX10_nameOf_62 rfl rfl ?_
    refine ev_ialoadA dX10_nameOf_63 (by first | assumption | omega | exact ePp.ob (by assumption) | exact eNm.ob (by assumption) | exact eRg.ob (by assumption) | exact eTx.ob (by assumption) | exact ePa.ob (by assumption)) (by first | assumption | omega | exact ePp.ob (by assumption) | exact eNm.ob (by assumption) | exact eRg.ob (by assumption) | exact eTx.ob (by assumption) | exact ePa.ob (by assumption)) ?_
    exact ev_iret dX10_nameOf_64 rfl rfl (by subst w; exact nR rfl) (by rfl) (fun _ e => Option.some.inj e) (Nat.le_of_ble_eq_true rfl) (Nat.le_of_ble_eq_true rfl)
  by_cases z_6_1 : w = 1
  · refine ev_tabN (off := 59) (tgt := 65) dX10_nameOf_6 (by rw [z_6_1]; decide) (by rw [z_6_1]; decide) (by rw [z_6_1]; decide) (by rw [z_6_1]; rfl) (by decide) ?_
    refine ev_aload_n dX10_nameOf_65 rfl rfl ?_
    refine ev_getfield dX10_nameOf_66 fl_X10_19 (by first | assumption | omega | exact ePp.ob (by assumption) | exact eNm.ob (by assumption) | exact eRg.ob (by assumption) | exact eTx.ob (by assumption) | exact ePa.ob (by assumption)) rfl ?_
    refine ev_getfield dX10_nameOf_69 fl_X10_100 (by first | assumption | omega | exact ePp.ob (by assumption) | exact eNm.ob (by assumption) | exact eRg.ob (by assumption) | exact eTx.ob (by assumption) | exact ePa.ob (by assumption)) rfl ?_
    refine ev_getfield dX10_nameOf_72 fl_X10_171 (by first | assumption | omega | exact ePp.ob (by assumption) | exact eNm.ob (by assumption) | exact eRg.ob (by assumption) | exact eTx.ob (by assumption) | exact ePa.ob (by assumption)) rfl ?_
    refine ev_iload_n dX10_nameOf_75 rfl rfl ?_
    refine ev_ialoadA dX10_nameOf_76 (by first | assumption | omega | exact ePp.ob (by assumption) | exact eNm.ob (by assumption) | exact eRg.ob (by assumption) | exact eTx.ob (by assumption) | exact ePa.ob (by assumption)) (by first | assumption | omega | exact ePp.ob (by assumption) | exact eNm.ob (by assumption) | exact eRg.ob (by assumption) | exact eTx.ob (by assumption) | exact ePa.ob (by assumption)) ?_
    exact ev_iret dX10_nameOf_77 rfl rfl (by subst w; exact nR rfl) (by rfl) (fun _ e => Option.some.inj e) (Nat.le_of_ble_eq_true rfl) (Nat.le_of_ble_eq_true rfl)
  by_cases z_6_2 : w = 2
  · refine ev_tabN (off := 72) (tgt := 78) dX10_nameOf_6 (by rw [z_6_2]; decide) (by rw [z_6_2]; decide) (by rw [z_6_2]; decide) (by rw [z_6_2]; rfl) (by decide) ?_
    refine ev_aload_n dX10_nameOf_78 rfl rfl ?_
    refine ev_getfield dX10_nameOf_79 fl_X10_19 (by first | assumption | omega | exact ePp.ob (by assumption) | exact eNm.ob (by assumption) | exact eRg.ob (by assumption) | exact eTx.ob (by assumption) | exact ePa.ob (by assumption)) rfl ?_
    refine ev_getfield dX10_nameOf_82 fl_X10_100 (by first | assumption | omega | exact ePp.ob (by assumption) | exact eNm.ob (by assumption) | exact eRg.ob (by assumption) | exact eTx.ob (by assumption) | exact ePa.ob (by assumption)) rfl ?_
    refine ev_getfield dX10_nameOf_85 fl_X10_174 (by first | assumption | omega | exact ePp.ob (by assumption) | exact eNm.ob (by assumption) | exact eRg.ob (by assumption) | exact eTx.ob (by assumption) | exact ePa.ob (by assumption)) rfl ?_
    refine ev_iload_n dX10_nameOf_88 rfl rfl ?_
    refine ev_ialoadA dX10_nameOf_89 (by first | assumption | omega | exact ePp.ob (by assumption) | exact eNm.ob (by assumption) | exact eRg.ob (by assumption) | exact eTx.ob (by assumption) | exact ePa.ob (by assumption)) (by first | assumption | omega | exact ePp.ob (by assumption) | exact eNm.ob (by assumption) | exact eRg.ob (by assumption) | exact eTx.ob (by assumption) | exact ePa.ob (by assumption)) ?_
    exact ev_iret dX10_nameOf_90 rfl rfl (by subst w; exact nR rfl) (by rfl) (fun _ e => Option.some.inj e) (Nat.le_of_ble_eq_true rfl) (Nat.le_of_ble_eq_true rfl)
  by_cases z_6_3 : w = 3
  · refine ev_tabN (off := 85) (tgt := 91) dX10_nameOf_6 (by rw [z_6_3]; decide) (by rw [z_6_3]; decide) (by rw [z_6_3]; decide) (by rw [z_6_3]; rfl) (by decide) ?_
    refine ev_aload_n dX10_nameOf_91 rfl rfl ?_
    refine ev_getfield dX10_nameOf_92 fl_X10_19 (by first | assumption | omega | exact ePp.ob (by assumption) | exact eNm.ob (by assumption) | exact eRg.ob (by assumption) | exact eTx.ob (by assumption) | exact ePa.ob (by assumption)) rfl ?_
    refine ev_getfield dX10_nameOf_95 fl_X10_100 (by first | assumption | omega | exact ePp.ob (by assumption) | exact eNm.ob (by assumption) | exact eRg.ob (by assumption) | exact eTx.ob (by assumption) | exact ePa.ob (by assumption)) rfl ?_
    refine ev_getfield dX10_nameOf_98 fl_X10_177 (by first | assumption | omega | exact ePp.ob (by assumption) | exact eNm.ob (by assumption) | exact eRg.ob (by assumption) | exact eTx.ob (by assumption) | exact ePa.ob (by assumption)) rfl ?_
    refine ev_iload_n dX10_nameOf_101 rfl rfl ?_
    refine ev_ialoadA dX10_nameOf_102 (by first | assumption | omega | exact ePp.ob (by assumption) | exact eNm.ob (by assumption) | exact eRg.ob (by assumption) | exact eTx.ob (by assumption) | exact ePa.ob (by assumption)) (by first | assumption | omega | exact ePp.ob (by assumption) | exact eNm.ob (by assumption) | exact eRg.ob (by assumption) | exact eTx.ob (by assumption) | exact ePa.ob (by assumption)) ?_
    exact ev_iret dX10_nameOf_103 rfl rfl (by subst w; exact nR rfl) (by rfl) (fun _ e => Option.some.inj e) (Nat.le_of_ble_eq_true rfl) (Nat.le_of_ble_eq_true rfl)
  by_cases z_6_4 : w = 4
  · refine ev_tabN (off := 98) (tgt := 104) dX10_nameOf_6 (by rw [z_6_4]; decide) (by rw [z_6_4]; decide) (by rw [z_6_4]; decide) (by rw [z_6_4]; rfl) (by decide) ?_
    refine ev_aload_n dX10_nameOf_104 rfl rfl ?_
    refine ev_getfield dX10_nameOf_105 fl_X10_19 (by first | assumption | omega | exact ePp.ob (by assumption) | exact eNm.ob (by assumption) | exact eRg.ob (by assumption) | exact eTx.ob (by assumption) | exact ePa.ob (by assumption)) rfl ?_
    refine ev_getfield dX10_nameOf_108 fl_X10_100 (by first | assumption | omega | exact ePp.ob (by assumption) | exact eNm.ob (by assumption) | exact eRg.ob (by assumption) | exact eTx.ob (by assumption) | exact ePa.ob (by assumption)) rfl ?_
    refine ev_getfield dX10_nameOf_111 fl_X10_180 (by first | assumption | omega | exact ePp.ob (by assumption) | exact eNm.ob (by assumption) | exact eRg.ob (by assumption) | exact eTx.ob (by assumption) | exact ePa.ob (by assumption)) rfl ?_
    refine ev_iload_n dX10_nameOf_114 rfl rfl ?_
    refine ev_ialoadA dX10_nameOf_115 (by first | assumption | omega | exact ePp.ob (by assumption) | exact eNm.ob (by assumption) | exact eRg.ob (by assumption) | exact eTx.ob (by assumption) | exact ePa.ob (by assumption)) (by first | assumption | omega | exact ePp.ob (by assumption) | exact eNm.ob (by assumption) | exact eRg.ob (by assumption) | exact eTx.ob (by assumption) | exact ePa.ob (by assumption)) ?_
    exact ev_iret dX10_nameOf_116 rfl rfl (by subst w; exact nR rfl) (by rfl) (fun _ e => Option.some.inj e) (Nat.le_of_ble_eq_true rfl) (Nat.le_of_ble_eq_true rfl)
  by_cases z_6_5 : w = 5
  · refine ev_tabN (off := 111) (tgt := 117) dX10_nameOf_6 (by rw [z_6_5]; decide) (by rw [z_6_5]; decide) (by rw [z_6_5]; decide) (by rw [z_6_5]; rfl) (by decide) ?_
    refine ev_aload_n dX10_nameOf_117 rfl rfl ?_
    refine ev_getfield dX10_nameOf_118 fl_X10_19 (by first | assumption | omega | exact ePp.ob (by assumption) | exact eNm.ob (by assumption) | exact eRg.ob (by assumption) | exact eTx.ob (by assumption) | exact ePa.ob (by assumption)) rfl ?_
    refine ev_getfield dX10_nameOf_121 fl_X10_100 (by first | assumption | omega | exact ePp.ob (by assumption) | exact eNm.ob (by assumption) | exact eRg.ob (by assumption) | exact eTx.ob (by assumption) | exact ePa.ob (by assumption)) rfl ?_
    refine ev_getfield dX10_nameOf_124 fl_X10_183 (by first | assumption | omega | exact ePp.ob (by assumption) | exact eNm.ob (by assumption) | exact eRg.ob (by assumption) | exact eTx.ob (by assumption) | exact ePa.ob (by assumption)) rfl ?_
    refine ev_iload_n dX10_nameOf_127 rfl rfl ?_
    refine ev_ialoadA dX10_nameOf_128 (by first | assumption | omega | exact ePp.ob (by assumption) | exact eNm.ob (by assumption) | exact eRg.ob (by assumption) | exact eTx.ob (by assumption) | exact ePa.ob (by assumption)) (by first | assumption | omega | exact ePp.ob (by assumption) | exact eNm.ob (by assumption) | exact eRg.ob (by assumption) | exact eTx.ob (by assumption) | exact ePa.ob (by assumption)) ?_
    exact ev_iret dX10_nameOf_129 rfl rfl (by subst w; exact nR rfl) (by rfl) (fun _ e => Option.some.inj e) (Nat.le_of_ble_eq_true rfl) (Nat.le_of_ble_eq_true rfl)
  by_cases z_6_6 : w = 6
  · refine ev_tabN (off := 124) (tgt := 130) dX10_nameOf_6 (by rw [z_6_6]; decide) (by rw [z_6_6]; decide) (by rw [z_6_6]; decide) (by rw [z_6_6]; rfl) (by decide) ?_
    refine ev_aload_n dX10_nameOf_130 rfl rfl ?_
    refine ev_getfield dX10_nameOf_131 fl_X10_19 (by first | assumption | omega | exact ePp.ob (by assumption) | exact eNm.ob (by assumption) | exact eRg.ob (by assumption) | exact eTx.ob (by assumption) | exact ePa.ob (by assumption)) rfl ?_
    refine ev_getfield dX10_nameOf_134 fl_X10_100 (by first | assumption | omega | exact ePp.ob (by assumption) | exact eNm.ob (by assumption) | exact eRg.ob (by assumption) | exact eTx.ob (by assumption) | exact ePa.ob (by assumption)) rfl ?_
    refine ev_getfield dX10_nameOf_137 fl_X10_186 (by first | assumption | omega | exact ePp.ob (by assumption) | exact eNm.ob (by assumption) | exact eRg.ob (by assumption) | exact eTx.ob (by assumption) | exact ePa.ob (by assumption)) rfl ?_
    refine ev_iload_n dX10_nameOf_140 rfl rfl ?_
    refine ev_ialoadA dX10_nameOf_141 (by first | assumption | omega | exact ePp.ob (by assumption) | exact eNm.ob (by assumption) | exact eRg.ob (by assumption) | exact eTx.ob (by assumption) | exact ePa.ob (by assumption)) (by first | assumption | omega | exact ePp.ob (by assumption) | exact eNm.ob (by assumption) | exact eRg.ob (by assumption) | exact eTx.ob (by assumption) | exact ePa.ob (by assumption)) ?_
    exact ev_iret dX10_nameOf_142 rfl rfl (by subst w; exact nR rfl) (by rfl) (fun _ e => Option.some.inj e) (Nat.le_of_ble_eq_true rfl) (Nat.le_of_ble_eq_true rfl)
  by_cases z_6_7 : w = 7
  · refine ev_tabN (off := 137) (tgt := 143) dX10_nameOf_6 (by rw [z_6_7]; decide) (by rw [z_6_7]; decide) (by rw [z_6_7]; decide) (by rw [z_6_7]; rfl) (by decide) ?_
    refine ev_aload_n dX10_nameOf_143 rfl rfl ?_
    refine ev_getfield dX10_nameOf_144 fl_X10_19 (by first | assumption | omega | exact ePp.ob (by assumption) | exact eNm.ob (by assumption) | exact eRg.ob (by assumption) | exact eTx.ob (by assumption) | exact ePa.ob (by assumption)) rfl ?_
    refine ev_getfield dX10_nameOf_147 fl_X10_100 (by first | assumption | omega | exact ePp.ob (by assumption) | exact eNm.ob (by assumption) | exact eRg.ob (by assumption) | exact eTx.ob (by assumption) | exact ePa.ob (by assumption)) rfl ?_
    refine ev_getfield dX10_nameOf_150 fl_X10_189 (by first | assumption | omega | exact ePp.ob (by assumption) | exact eNm.ob (by assumption) | exact eRg.ob (by assumption) | exact eTx.ob (by assumption) | exact ePa.ob (by assumption)) rfl ?_
    refine ev_iload_n dX10_nameOf_153 rfl rfl ?_
    refine ev_baloadA dX10_nameOf_154 (by first | assumption | omega | exact ePp.ob (by assumption) | exact eNm.ob (by assumption) | exact eRg.ob (by assumption) | exact eTx.ob (by assumption) | exact ePa.ob (by assumption)) (by first | assumption | omega | exact ePp.ob (by assumption) | exact eNm.ob (by assumption) | exact eRg.ob (by assumption) | exact eTx.ob (by assumption) | exact ePa.ob (by assumption)) ?_
    first | ((with_reducible show eV _ _ _ (Value.int (bI _) :: _) _ _ _ _); refine ev_if_eqB (tgt := 162) dX10_nameOf_155 (by decide) (fun c_155 => ?_) (fun c_155 => ?_)) | ((with_reducible show eV _ _ _ (Value.int (nI _) :: _) _ _ _ _); refine ev_if_eqN (tgt := 162) dX10_nameOf_155 (by decide) (by first | omega | exact hB _ _) (fun c_155 => ?_) (fun c_155 => ?_)) | (refine ev_if_eqZ (tgt := 162) dX10_nameOf_155 (by decide) (fun c_155 => ?_) (fun c_155 => ?_))
    · refine ev_iconst (v := nI 0) dX10_nameOf_162 rfl ?_
      exact ev_iret dX10_nameOf_163 rfl rfl (by subst w; exact nR (by show σ 13 p = _; omega)) (by rfl) (fun _ e => Option.some.inj e) (Nat.le_of_ble_eq_true rfl) (Nat.le_of_ble_eq_true rfl)
    · refine ev_iconst (v := nI 1) dX10_nameOf_158 rfl ?_
      refine ev_goto (tgt := 163) dX10_nameOf_159 (by decide) ?_
      exact ev_iret dX10_nameOf_163 rfl rfl (by subst w; exact nR (by show σ 13 p = _; omega)) (by rfl) (fun _ e => Option.some.inj e) (Nat.le_of_ble_eq_true rfl) (Nat.le_of_ble_eq_true rfl)
  refine ev_tabOutN (tgt := 164) dX10_nameOf_6 (by first | omega | exact hB _ _) (by omega) (by decide) ?_
  exact absurd hw (by omega)
set_option maxHeartbeats 4000000 in
set_option maxRecDepth 20000 in
theorem c_X10_nameOf_1 {h : eH} {n b ℓ c : Nat} {z y : Int32} {σ : St} {x : Nat → Nat} {τ τs : Nat → St} {us : Nat → Nat} (hO : eNB h b σ x ℓ c τ us τs) (hB : eB σ) (hz : ¬ (0 ≤ z.toInt ∧ z.toInt < (σ 0 1 : Int))) : kX10_nameOf [.ref b, .int z, .int y] h n (.inr "java/lang/IndexOutOfBoundsException", (· = h), none) 1 6 := by
  refine eM.of RX10 "nameOf" [(0, .ref b), (1, .int z), (2, .int y)] pn_X10 rfl rfl (Nat.le_of_ble_eq_true rfl) rfl ?_
  have o0 := hO.1
  refine ev_aload_n dX10_nameOf_0 rfl rfl ?_
  refine ev_iload_n dX10_nameOf_1 rfl rfl ?_
  refine ev_callVx dX10_nameOf_2 (c_X10_requireName_n hO hB hz) rfl lk_X10_165 (by first | assumption | omega | exact ePp.ob (by assumption) | exact eNm.ob (by assumption) | exact eRg.ob (by assumption) | exact eTx.ob (by assumption) | exact ePa.ob (by assumption)) ⟨Nat.le_of_ble_eq_true rfl, Nat.le_of_ble_eq_true rfl⟩ rfl (Nat.le_of_ble_eq_true rfl) ⟨by first | exact Nat.le_of_ble_eq_true rfl | omega, by first | exact Nat.le_of_ble_eq_true rfl | omega⟩ rfl rfl (fun _ hg_2 => hg_2)
set_option maxHeartbeats 4000000 in
set_option maxRecDepth 20000 in
theorem c_X10_nameOf_2 {h : eH} {n b ℓ c p : Nat} {y : Int32} {σ : St} {x : Nat → Nat} {τ τs : Nat → St} {us : Nat → Nat} (hO : eNB h b σ x ℓ c τ us τs) (hB : eB σ) (hp : p < σ 0 1) (hy : ¬ (0 ≤ y.toInt ∧ y.toInt < (8 : Nat))) : kX10_nameOf [.ref b, .int (nI p), .int y] h n (.inr "java/lang/IllegalArgumentException", (· = h), none) 1 6 := by
  refine eM.of RX10 "nameOf" [(0, .ref b), (1, .int (nI p)), (2, .int y)] pn_X10 rfl rfl (Nat.le_of_ble_eq_true rfl) rfl ?_
  have o0 := hO.1
  refine ev_aload_n dX10_nameOf_0 rfl rfl ?_
  refine ev_iload_n dX10_nameOf_1 rfl rfl ?_
  refine ev_callVv dX10_nameOf_2 (c_X10_requireName hO hB hp) rfl lk_X10_165 (by first | assumption | omega | exact ePp.ob (by assumption) | exact eNm.ob (by assumption) | exact eRg.ob (by assumption) | exact eTx.ob (by assumption) | exact ePa.ob (by assumption)) ⟨Nat.le_of_ble_eq_true rfl, Nat.le_of_ble_eq_true rfl⟩ rfl (Nat.le_of_ble_eq_true rfl) ⟨by first | exact Nat.le_of_ble_eq_true rfl | omega, by first | exact Nat.le_of_ble_eq_true rfl | omega⟩ (eRo ?_)
  refine ev_iload_n dX10_nameOf_5 rfl rfl ?_
  refine ev_tableOut (tgt := 164) dX10_nameOf_6 (by omega) (by decide) ?_
  exact ev_throwS (text := "what is 0 to 7") dX10_nameOf_164 dX10_nameOf_167 dX10_nameOf_168 dX10_nameOf_170 dX10_nameOf_173 (by decide +kernel) (by decide +kernel) wk_X10_47 wi_java_lang_IllegalArgumentException (by decide +kernel) th_X10_51 tg_X10_47_51 rfl (Nat.le_of_ble_eq_true rfl) (Nat.le_of_ble_eq_true rfl) (Nat.le_of_ble_eq_true rfl) (Nat.le_of_ble_eq_true rfl) rfl (by rfl)
set_option maxHeartbeats 4000000 in
set_option maxRecDepth 20000 in
theorem c_X10_letter {h : eH} {n b ℓ c k p : Nat} {σ : St} {x : Nat → Nat} {τ τs : Nat → St} {us : Nat → Nat} (hO : eNB h b σ x ℓ c τ us τs) (hK : eOK σ) (hk : k < σ 0 1) (hp : p < 2 ^ 31) : kX10_letter [.ref b, .int (nI k), .int (nI p)] h n (.inl (some (.int (oI (sLetter σ k p)))), (· = h), some n) 0 0 := by
  refine eM.of RX10 "letter" [(0, .ref b), (1, .int (nI k)), (2, .int (nI p))] pn_X10 rfl rfl (Nat.le_of_ble_eq_true rfl) rfl ?_
  have hB : eB σ := hK.1
  have hk2 := hK.2.2.2.1 k hk
  obtain ⟨o0, -, oR, -⟩ := id hO
  obtain ⟨r0, oPp, oN, oS⟩ := id oR
  obtain ⟨n0, n1, n2, n3, n4, n5, n6, n7, n8, n9⟩ := id oN
  refine ev_aload_n dX10_letter_0 rfl rfl ?_
  refine ev_iload_n dX10_letter_1 rfl rfl ?_
  refine ev_callVv dX10_letter_2 (c_X10_requireName hO hB hk) rfl lk_X10_165 (by first | assumption | omega | exact ePp.ob (by assumption) | exact eNm.ob (by assumption) | exact eRg.ob (by assumption) | exact eTx.ob (by assumption) | exact ePa.ob (by assumption)) ⟨Nat.le_of_ble_eq_true rfl, Nat.le_of_ble_eq_true rfl⟩ rfl (Nat.le_of_ble_eq_true rfl) ⟨by first | exact Nat.le_of_ble_eq_true rfl | omega, by first | exact Nat.le_of_ble_eq_true rfl | omega⟩ (eRo ?_)
  refine ev_iload_n dX10_letter_5 rfl rfl ?_
  refine ev_if_geZ (tgt := 19) dX10_letter_6 (by decide) (fun _ => ?_) (fun c6 => absurd c6 (by rw [nI_toInt hp]; omega))
  refine ev_iload_n dX10_letter_19 rfl rfl ?_
  refine ev_aload_n dX10_letter_20 rfl rfl ?_
  refine ev_getfield dX10_letter_21 fl_X10_19 (by first | assumption | omega | exact ePp.ob (by assumption) | exact eNm.ob (by assumption) | exact eRg.ob (by assumption) | exact eTx.ob (by assumption) | exact ePa.ob (by assumption)) rfl ?_
  refine ev_getfield dX10_letter_24 fl_X10_100 (by first | assumption | omega | exact ePp.ob (by assumption) | exact eNm.ob (by assumption) | exact eRg.ob (by assumption) | exact eTx.ob (by assumption) | exact ePa.ob (by assumption)) rfl ?_
  refine ev_getfield dX10_letter_27 fl_X10_168 (by first | assumption | omega | exact ePp.ob (by assumption) | exact eNm.ob (by assumption) | exact eRg.ob (by assumption) | exact eTx.ob (by assumption) | exact ePa.ob (by assumption)) rfl ?_
  refine ev_iload_n dX10_letter_30 rfl rfl ?_
  refine ev_ialoadA dX10_letter_31 (by first | assumption | omega | exact ePp.ob (by assumption) | exact eNm.ob (by assumption) | exact eRg.ob (by assumption) | exact eTx.ob (by assumption) | exact ePa.ob (by assumption)) (by first | assumption | omega | exact ePp.ob (by assumption) | exact eNm.ob (by assumption) | exact eRg.ob (by assumption) | exact eTx.ob (by assumption) | exact ePa.ob (by assumption)) ?_
  first | ((with_reducible show eV _ _ _ (Value.int (nI _) :: Value.int (nI _) :: _) _ _ _ _); refine ev_icmp_ltN (tgt := 37) dX10_letter_32 (by decide) (by first | omega | exact hB _ _) (by first | omega | exact hB _ _) (fun c_32 => ?_) (fun c_32 => ?_)) | ((with_reducible show eV _ _ _ (Value.int (nI _) :: _) _ _ _ _); refine ev_icmp_ltZN (tgt := 37) dX10_letter_32 (by decide) (by first | omega | exact hB _ _) (fun c_32 => ?_) (fun c_32 => ?_)) | ((with_reducible show eV _ _ _ (_ :: Value.int (nI _) :: _) _ _ _ _); refine ev_icmp_ltNZ (tgt := 37) dX10_letter_32 (by decide) (by first | omega | exact hB _ _) (fun c_32 => ?_) (fun c_32 => ?_)) | (refine ev_icmp_ltZZ (tgt := 37) dX10_letter_32 (by decide) (fun c_32 => ?_) (fun c_32 => ?_))
  · refine ev_aload_n dX10_letter_37 rfl rfl ?_
    refine ev_getfield dX10_letter_38 fl_X10_19 (by first | assumption | omega | exact ePp.ob (by assumption) | exact eNm.ob (by assumption) | exact eRg.ob (by assumption) | exact eTx.ob (by assumption) | exact ePa.ob (by assumption)) rfl ?_
    refine ev_getfield dX10_letter_41 fl_X10_100 (by first | assumption | omega | exact ePp.ob (by assumption) | exact eNm.ob (by assumption) | exact eRg.ob (by assumption) | exact eTx.ob (by assumption) | exact ePa.ob (by assumption)) rfl ?_
    refine ev_getfield dX10_letter_44 fl_X10_168 (by first | assumption | omega | exact ePp.ob (by assumption) | exact eNm.ob (by assumption) | exact eRg.ob (by assumption) | exact eTx.ob (by assumption) | exact ePa.ob (by assumption)) rfl ?_
    refine ev_iload_n dX10_letter_47 rfl rfl ?_
    refine ev_ialoadA dX10_letter_48 (by first | assumption | omega | exact ePp.ob (by assumption) | exact eNm.ob (by assumption) | exact eRg.ob (by assumption) | exact eTx.ob (by assumption) | exact ePa.ob (by assumption)) (by first | assumption | omega | exact ePp.ob (by assumption) | exact eNm.ob (by assumption) | exact eRg.ob (by assumption) | exact eTx.ob (by assumption) | exact ePa.ob (by assumption)) ?_
    refine ev_aload_n dX10_letter_49 rfl rfl ?_
    refine ev_getfield dX10_letter_50 fl_X10_19 (by first | assumption | omega | exact ePp.ob (by assumption) | exact eNm.ob (by assumption) | exact eRg.ob (by assumption) | exact eTx.ob (by assumption) | exact ePa.ob (by assumption)) rfl ?_
    refine ev_getfield dX10_letter_53 fl_X10_100 (by first | assumption | omega | exact ePp.ob (by assumption) | exact eNm.ob (by assumption) | exact eRg.ob (by assumption) | exact eTx.ob (by assumption) | exact ePa.ob (by assumption)) rfl ?_
    refine ev_getfield dX10_letter_56 fl_X10_171 (by first | assumption | omega | exact ePp.ob (by assumption) | exact eNm.ob (by assumption) | exact eRg.ob (by assumption) | exact eTx.ob (by assumption) | exact ePa.ob (by assumption)) rfl ?_
    refine ev_iload_n dX10_letter_59 rfl rfl ?_
    refine ev_ialoadA dX10_letter_60 (by first | assumption | omega | exact ePp.ob (by assumption) | exact eNm.ob (by assumption) | exact eRg.ob (by assumption) | exact eTx.ob (by assumption) | exact ePa.ob (by assumption)) (by first | assumption | omega | exact ePp.ob (by assumption) | exact eNm.ob (by assumption) | exact eRg.ob (by assumption) | exact eTx.ob (by assumption) | exact ePa.ob (by assumption)) ?_
    refine ev_iload_n dX10_letter_61 rfl rfl ?_
    refine ev_callSi dX10_letter_62 (c_X0_at ⟨hk2.2.2.1, hk2.2.2.2.1⟩ (hB _ _) c_32) lk_X10_200 ⟨Nat.le_of_ble_eq_true rfl, Nat.le_of_ble_eq_true rfl⟩ rfl (Nat.le_of_ble_eq_true rfl) ⟨by first | exact Nat.le_of_ble_eq_true rfl | omega, by first | exact Nat.le_of_ble_eq_true rfl | omega⟩ (eRo ?_)
    exact ev_iret dX10_letter_65 rfl rfl (by exact oRx (if_pos c_32)) (by rfl) (fun _ e => Option.some.inj e) (Nat.le_of_ble_eq_true rfl) (Nat.le_of_ble_eq_true rfl)
  · refine ev_iconst (v := -1) dX10_letter_35 (by decide) ?_
    exact ev_iret dX10_letter_36 rfl rfl (by exact oRn (if_neg (by omega))) (by rfl) (fun _ e => Option.some.inj e) (Nat.le_of_ble_eq_true rfl) (Nat.le_of_ble_eq_true rfl)
set_option maxHeartbeats 4000000 in
set_option maxRecDepth 20000 in
theorem c_X10_letter_1 {h : eH} {n b ℓ c : Nat} {z y : Int32} {σ : St} {x : Nat → Nat} {τ τs : Nat → St} {us : Nat → Nat} (hO : eNB h b σ x ℓ c τ us τs) (hB : eB σ) (hz : ¬ (0 ≤ z.toInt ∧ z.toInt < (σ 0 1 : Int))) : kX10_letter [.ref b, .int z, .int y] h n (.inr "java/lang/IndexOutOfBoundsException", (· = h), none) 1 6 := by
  refine eM.of RX10 "letter" [(0, .ref b), (1, .int z), (2, .int y)] pn_X10 rfl rfl (Nat.le_of_ble_eq_true rfl) rfl ?_
  have o0 := hO.1
  refine ev_aload_n dX10_letter_0 rfl rfl ?_
  refine ev_iload_n dX10_letter_1 rfl rfl ?_
  refine ev_callVx dX10_letter_2 (c_X10_requireName_n hO hB hz) rfl lk_X10_165 (by first | assumption | omega | exact ePp.ob (by assumption) | exact eNm.ob (by assumption) | exact eRg.ob (by assumption) | exact eTx.ob (by assumption) | exact ePa.ob (by assumption)) ⟨Nat.le_of_ble_eq_true rfl, Nat.le_of_ble_eq_true rfl⟩ rfl (Nat.le_of_ble_eq_true rfl) ⟨by first | exact Nat.le_of_ble_eq_true rfl | omega, by first | exact Nat.le_of_ble_eq_true rfl | omega⟩ rfl rfl (fun _ hg_2 => hg_2)
set_option maxHeartbeats 4000000 in
set_option maxRecDepth 20000 in
theorem c_X10_letter_2 {h : eH} {n b ℓ c k : Nat} {y : Int32} {σ : St} {x : Nat → Nat} {τ τs : Nat → St} {us : Nat → Nat} (hO : eNB h b σ x ℓ c τ us τs) (hB : eB σ) (hk : k < σ 0 1) (hy : y.toInt < 0) : kX10_letter [.ref b, .int (nI k), .int y] h n (.inr "java/lang/IndexOutOfBoundsException", (· = h), none) 1 6 := by
  refine eM.of RX10 "letter" [(0, .ref b), (1, .int (nI k)), (2, .int y)] pn_X10 rfl rfl (Nat.le_of_ble_eq_true rfl) rfl ?_
  have o0 := hO.1
  refine ev_aload_n dX10_letter_0 rfl rfl ?_
  refine ev_iload_n dX10_letter_1 rfl rfl ?_
  refine ev_callVv dX10_letter_2 (c_X10_requireName hO hB hk) rfl lk_X10_165 (by first | assumption | omega | exact ePp.ob (by assumption) | exact eNm.ob (by assumption) | exact eRg.ob (by assumption) | exact eTx.ob (by assumption) | exact ePa.ob (by assumption)) ⟨Nat.le_of_ble_eq_true rfl, Nat.le_of_ble_eq_true rfl⟩ rfl (Nat.le_of_ble_eq_true rfl) ⟨by first | exact Nat.le_of_ble_eq_true rfl | omega, by first | exact Nat.le_of_ble_eq_true rfl | omega⟩ (eRo ?_)
  refine ev_iload_n dX10_letter_5 rfl rfl ?_
  refine ev_if_geZ (tgt := 19) dX10_letter_6 (by decide) (fun c_6 => ?_) (fun c_6 => ?_)
  · exact absurd hy (by omega)
  · exact ev_throwS (text := "a place is not negative") dX10_letter_9 dX10_letter_12 dX10_letter_13 dX10_letter_15 dX10_letter_18 (by decide +kernel) (by decide +kernel) wk_X10_195 wi_java_lang_IndexOutOfBoundsException (by decide +kernel) th_X10_199 tg_X10_195_199 rfl (Nat.le_of_ble_eq_true rfl) (Nat.le_of_ble_eq_true rfl) (Nat.le_of_ble_eq_true rfl) (Nat.le_of_ble_eq_true rfl) rfl (by rfl)
set_option maxHeartbeats 4000000 in
set_option maxRecDepth 20000 in
theorem c_X10_roll {h : eH} {n b ℓ c k : Nat} {σ : St} {x : Nat → Nat} {τ τs : Nat → St} {us : Nat → Nat} (hO : eNB h b σ x ℓ c τ us τs) (hK : eOK σ) (hk : k < 2 ^ 31) : kX10_roll [.ref b, .int (nI k)] h n (.inl (some (.int (oI (sRank σ k)))), (· = h), some n) 0 0 := by
  refine eM.of RX10 "roll" [(0, .ref b), (1, .int (nI k))] pn_X10 rfl rfl (Nat.le_of_ble_eq_true rfl) rfl ?_
  obtain ⟨o0, -, oR, -⟩ := id hO
  obtain ⟨r0, oPp, oN, oS⟩ := id oR
  refine ev_iload_n dX10_roll_0 rfl rfl ?_
  refine ev_if_geZ (tgt := 14) dX10_roll_1 (by decide) (fun _ => ?_) (fun c6 => absurd c6 (by rw [nI_toInt hk]; omega))
  refine ev_aload_n dX10_roll_14 rfl rfl ?_
  refine ev_getfield dX10_roll_15 fl_X10_19 (by first | assumption | omega | exact ePp.ob (by assumption) | exact eNm.ob (by assumption) | exact eRg.ob (by assumption) | exact eTx.ob (by assumption) | exact ePa.ob (by assumption)) rfl ?_
  refine ev_getfield dX10_roll_18 fl_X10_100 (by first | assumption | omega | exact ePp.ob (by assumption) | exact eNm.ob (by assumption) | exact eRg.ob (by assumption) | exact eTx.ob (by assumption) | exact ePa.ob (by assumption)) rfl ?_
  refine ev_iload_n dX10_roll_21 rfl rfl ?_
  refine ev_callVi dX10_roll_22 (c_X2_ranked oN hK hk) rfl lk_X10_208 (by first | assumption | omega | exact ePp.ob (by assumption) | exact eNm.ob (by assumption) | exact eRg.ob (by assumption) | exact eTx.ob (by assumption) | exact ePa.ob (by assumption)) ⟨Nat.le_of_ble_eq_true rfl, Nat.le_of_ble_eq_true rfl⟩ rfl (Nat.le_of_ble_eq_true rfl) ⟨by first | exact Nat.le_of_ble_eq_true rfl | omega, by first | exact Nat.le_of_ble_eq_true rfl | omega⟩ (eRo ?_)
  exact ev_iret dX10_roll_25 rfl rfl (by rfl) (by rfl) (fun _ e => Option.some.inj e) (Nat.le_of_ble_eq_true rfl) (Nat.le_of_ble_eq_true rfl)
set_option maxHeartbeats 4000000 in
set_option maxRecDepth 20000 in
theorem c_X10_roll_1 {h : eH} {n b : Nat} {y : Int32} (hy : y.toInt < 0) : kX10_roll [.ref b, .int y] h n (.inr "java/lang/IllegalArgumentException", (· = h), none) 1 6 := by
  refine eM.of RX10 "roll" [(0, .ref b), (1, .int y)] pn_X10 rfl rfl (Nat.le_of_ble_eq_true rfl) rfl ?_
  refine ev_iload_n dX10_roll_0 rfl rfl ?_
  refine ev_if_geZ (tgt := 14) dX10_roll_1 (by decide) (fun c_1 => ?_) (fun c_1 => ?_)
  · exact absurd hy (by omega)
  · exact ev_throwS (text := "a rank is not negative") dX10_roll_4 dX10_roll_7 dX10_roll_8 dX10_roll_10 dX10_roll_13 (by decide +kernel) (by decide +kernel) wk_X10_47 wi_java_lang_IllegalArgumentException (by decide +kernel) th_X10_51 tg_X10_47_51 rfl (Nat.le_of_ble_eq_true rfl) (Nat.le_of_ble_eq_true rfl) (Nat.le_of_ble_eq_true rfl) (Nat.le_of_ble_eq_true rfl) rfl (by rfl)
set_option maxHeartbeats 4000000 in
set_option maxRecDepth 20000 in
theorem c_X10_why {h : eH} {n b ℓ c g p m k : Nat} {σ : St} {x : Nat → Nat} {τ τs : Nat → St} {us : Nat → Nat} (hO : eNB h b σ x ℓ c τ us τs) (hK : eOK σ) (hg : g < σ 0 0) (hp : p < σ 0 0) (hm : m < 2 ^ 31) (hc : k < 2 ^ 31) (hmc : sCode m k = true) : kX10_why [.ref b, .int (nI g), .int (nI p), .int (nI m), .int (nI k)] h n (.inl (some (.int (nI (sWhy σ g p m k)))), (· = h), some n) 0 0 := by
  refine eM.of RX10 "why" [(0, .ref b), (1, .int (nI g)), (2, .int (nI p)), (3, .int (nI m)), (4, .int (nI k))] pn_X10 rfl rfl (Nat.le_of_ble_eq_true rfl) rfl ?_
  obtain ⟨o0, -, oR, -⟩ := id hO
  obtain ⟨r0, oPp, oN, oS⟩ := id oR
  refine ev_aload_n dX10_why_0 rfl rfl ?_
  refine ev_iload_n dX10_why_1 rfl rfl ?_
  refine ev_callVv dX10_why_2 (c_X10_requirePerson hO hK.1 hg) rfl lk_X10_132 (by first | assumption | omega | exact ePp.ob (by assumption) | exact eNm.ob (by assumption) | exact eRg.ob (by assumption) | exact eTx.ob (by assumption) | exact ePa.ob (by assumption)) ⟨Nat.le_of_ble_eq_true rfl, Nat.le_of_ble_eq_true rfl⟩ rfl (Nat.le_of_ble_eq_true rfl) ⟨by first | exact Nat.le_of_ble_eq_true rfl | omega, by first | exact Nat.le_of_ble_eq_true rfl | omega⟩ (eRo ?_)
  refine ev_aload_n dX10_why_5 rfl rfl ?_
  refine ev_iload_n dX10_why_6 rfl rfl ?_
  refine ev_callVv dX10_why_7 (c_X10_requirePerson hO hK.1 hp) rfl lk_X10_132 (by first | assumption | omega | exact ePp.ob (by assumption) | exact eNm.ob (by assumption) | exact eRg.ob (by assumption) | exact eTx.ob (by assumption) | exact ePa.ob (by assumption)) ⟨Nat.le_of_ble_eq_true rfl, Nat.le_of_ble_eq_true rfl⟩ rfl (Nat.le_of_ble_eq_true rfl) ⟨by first | exact Nat.le_of_ble_eq_true rfl | omega, by first | exact Nat.le_of_ble_eq_true rfl | omega⟩ (eRo ?_)
  refine ev_iload_n dX10_why_10 rfl rfl ?_
  refine ev_iload dX10_why_11 rfl ?_
  refine ev_callSv dX10_why_13 (c_X10_requireCode hm hc hmc) lk_X10_214 ⟨Nat.le_of_ble_eq_true rfl, Nat.le_of_ble_eq_true rfl⟩ rfl (Nat.le_of_ble_eq_true rfl) ⟨by first | exact Nat.le_of_ble_eq_true rfl | omega, by first | exact Nat.le_of_ble_eq_true rfl | omega⟩ (eRo ?_)
  refine ev_aload_n dX10_why_16 rfl rfl ?_
  refine ev_getfield dX10_why_17 fl_X10_19 (by first | assumption | omega | exact ePp.ob (by assumption) | exact eNm.ob (by assumption) | exact eRg.ob (by assumption) | exact eTx.ob (by assumption) | exact ePa.ob (by assumption)) rfl ?_
  refine ev_iload_n dX10_why_20 rfl rfl ?_
  refine ev_iload_n dX10_why_21 rfl rfl ?_
  refine ev_iload_n dX10_why_22 rfl rfl ?_
  refine ev_iload dX10_why_23 rfl ?_
  refine ev_callVi dX10_why_25 (c_X5_reasonAgainst oR hK hg hp hm hc) rfl lk_X10_256 (by first | assumption | omega | exact ePp.ob (by assumption) | exact eNm.ob (by assumption) | exact eRg.ob (by assumption) | exact eTx.ob (by assumption) | exact ePa.ob (by assumption)) ⟨Nat.le_of_ble_eq_true rfl, Nat.le_of_ble_eq_true rfl⟩ rfl (Nat.le_of_ble_eq_true rfl) ⟨by first | exact Nat.le_of_ble_eq_true rfl | omega, by first | exact Nat.le_of_ble_eq_true rfl | omega⟩ (eRo ?_)
  exact ev_iret dX10_why_28 rfl rfl (by rfl) (by rfl) (fun _ e => Option.some.inj e) (Nat.le_of_ble_eq_true rfl) (Nat.le_of_ble_eq_true rfl)
set_option maxHeartbeats 4000000 in
set_option maxRecDepth 20000 in
theorem c_X10_why_1 {h : eH} {n b ℓ c : Nat} {z z2 z3 z4 : Int32} {σ : St} {x : Nat → Nat} {τ τs : Nat → St} {us : Nat → Nat} (hO : eNB h b σ x ℓ c τ us τs) (hB : eB σ) (hz : ¬ (0 ≤ z.toInt ∧ z.toInt < (σ 0 0 : Int))) : kX10_why [.ref b, .int z, .int z2, .int z3, .int z4] h n (.inr "java/lang/IndexOutOfBoundsException", (· = h), none) 1 6 := by
  refine eM.of RX10 "why" [(0, .ref b), (1, .int z), (2, .int z2), (3, .int z3), (4, .int z4)] pn_X10 rfl rfl (Nat.le_of_ble_eq_true rfl) rfl ?_
  have o0 := hO.1
  refine ev_aload_n dX10_why_0 rfl rfl ?_
  refine ev_iload_n dX10_why_1 rfl rfl ?_
  refine ev_callVx dX10_why_2 (c_X10_requirePerson_n hO hB hz) rfl lk_X10_132 (by first | assumption | omega | exact ePp.ob (by assumption) | exact eNm.ob (by assumption) | exact eRg.ob (by assumption) | exact eTx.ob (by assumption) | exact ePa.ob (by assumption)) ⟨Nat.le_of_ble_eq_true rfl, Nat.le_of_ble_eq_true rfl⟩ rfl (Nat.le_of_ble_eq_true rfl) ⟨by first | exact Nat.le_of_ble_eq_true rfl | omega, by first | exact Nat.le_of_ble_eq_true rfl | omega⟩ rfl rfl (fun _ hg_2 => hg_2)
set_option maxHeartbeats 4000000 in
set_option maxRecDepth 20000 in
theorem c_X10_why_2 {h : eH} {n b ℓ c g : Nat} {z2 z3 z4 : Int32} {σ : St} {x : Nat → Nat} {τ τs : Nat → St} {us : Nat → Nat} (hO : eNB h b σ x ℓ c τ us τs) (hB : eB σ) (hg : g < σ 0 0) (hz : ¬ (0 ≤ z2.toInt ∧ z2.toInt < (σ 0 0 : Int))) : kX10_why [.ref b, .int (nI g), .int z2, .int z3, .int z4] h n (.inr "java/lang/IndexOutOfBoundsException", (· = h), none) 1 6 := by
  refine eM.of RX10 "why" [(0, .ref b), (1, .int (nI g)), (2, .int z2), (3, .int z3), (4, .int z4)] pn_X10 rfl rfl (Nat.le_of_ble_eq_true rfl) rfl ?_
  have o0 := hO.1
  refine ev_aload_n dX10_why_0 rfl rfl ?_
  refine ev_iload_n dX10_why_1 rfl rfl ?_
  refine ev_callVv dX10_why_2 (c_X10_requirePerson hO hB hg) rfl lk_X10_132 (by first | assumption | omega | exact ePp.ob (by assumption) | exact eNm.ob (by assumption) | exact eRg.ob (by assumption) | exact eTx.ob (by assumption) | exact ePa.ob (by assumption)) ⟨Nat.le_of_ble_eq_true rfl, Nat.le_of_ble_eq_true rfl⟩ rfl (Nat.le_of_ble_eq_true rfl) ⟨by first | exact Nat.le_of_ble_eq_true rfl | omega, by first | exact Nat.le_of_ble_eq_true rfl | omega⟩ (eRo ?_)
  refine ev_aload_n dX10_why_5 rfl rfl ?_
  refine ev_iload_n dX10_why_6 rfl rfl ?_
  refine ev_callVx dX10_why_7 (c_X10_requirePerson_n hO hB hz) rfl lk_X10_132 (by first | assumption | omega | exact ePp.ob (by assumption) | exact eNm.ob (by assumption) | exact eRg.ob (by assumption) | exact eTx.ob (by assumption) | exact ePa.ob (by assumption)) ⟨Nat.le_of_ble_eq_true rfl, Nat.le_of_ble_eq_true rfl⟩ rfl (Nat.le_of_ble_eq_true rfl) ⟨by first | exact Nat.le_of_ble_eq_true rfl | omega, by first | exact Nat.le_of_ble_eq_true rfl | omega⟩ rfl rfl (fun _ hg_7 => hg_7)
set_option maxHeartbeats 4000000 in
set_option maxRecDepth 20000 in
theorem c_X10_why_3 {h : eH} {n b ℓ c g p : Nat} {z3 z4 : Int32} {σ : St} {x : Nat → Nat} {τ τs : Nat → St} {us : Nat → Nat} (hO : eNB h b σ x ℓ c τ us τs) (hB : eB σ) (hg : g < σ 0 0) (hp : p < σ 0 0) (hz : ¬ ((1 ≤ z3.toInt ∧ z3.toInt < (5 : Nat)) ∧ 0 ≤ z4.toInt ∧ z4.toInt < ((26 ^ z3.toInt.toNat : Nat) : Int))) : kX10_why [.ref b, .int (nI g), .int (nI p), .int z3, .int z4] h n (.inr "java/lang/IllegalArgumentException", (· = h), none) 1 6 := by
  refine eM.of RX10 "why" [(0, .ref b), (1, .int (nI g)), (2, .int (nI p)), (3, .int z3), (4, .int z4)] pn_X10 rfl rfl (Nat.le_of_ble_eq_true rfl) rfl ?_
  have o0 := hO.1
  refine ev_aload_n dX10_why_0 rfl rfl ?_
  refine ev_iload_n dX10_why_1 rfl rfl ?_
  refine ev_callVv dX10_why_2 (c_X10_requirePerson hO hB hg) rfl lk_X10_132 (by first | assumption | omega | exact ePp.ob (by assumption) | exact eNm.ob (by assumption) | exact eRg.ob (by assumption) | exact eTx.ob (by assumption) | exact ePa.ob (by assumption)) ⟨Nat.le_of_ble_eq_true rfl, Nat.le_of_ble_eq_true rfl⟩ rfl (Nat.le_of_ble_eq_true rfl) ⟨by first | exact Nat.le_of_ble_eq_true rfl | omega, by first | exact Nat.le_of_ble_eq_true rfl | omega⟩ (eRo ?_)
  refine ev_aload_n dX10_why_5 rfl rfl ?_
  refine ev_iload_n dX10_why_6 rfl rfl ?_
  refine ev_callVv dX10_why_7 (c_X10_requirePerson hO hB hp) rfl lk_X10_132 (by first | assumption | omega | exact ePp.ob (by assumption) | exact eNm.ob (by assumption) | exact eRg.ob (by assumption) | exact eTx.ob (by assumption) | exact ePa.ob (by assumption)) ⟨Nat.le_of_ble_eq_true rfl, Nat.le_of_ble_eq_true rfl⟩ rfl (Nat.le_of_ble_eq_true rfl) ⟨by first | exact Nat.le_of_ble_eq_true rfl | omega, by first | exact Nat.le_of_ble_eq_true rfl | omega⟩ (eRo ?_)
  refine ev_iload_n dX10_why_10 rfl rfl ?_
  refine ev_iload dX10_why_11 rfl ?_
  refine ev_callSx dX10_why_13 (c_X10_requireCode_n hz) lk_X10_214 ⟨Nat.le_of_ble_eq_true rfl, Nat.le_of_ble_eq_true rfl⟩ rfl (Nat.le_of_ble_eq_true rfl) ⟨by first | exact Nat.le_of_ble_eq_true rfl | omega, by first | exact Nat.le_of_ble_eq_true rfl | omega⟩ rfl rfl (fun _ hg_13 => hg_13)
set_option maxHeartbeats 4000000 in
set_option maxRecDepth 20000 in
theorem c_X10_endsIn {h : eH} {n b ℓ c k : Nat} {σ : St} {x : Nat → Nat} {τ τs : Nat → St} {us : Nat → Nat} (hO : eNB h b σ x ℓ c τ us τs) (hK : eOK σ) (hk : k < σ 0 1) : kX10_endsIn [.ref b, .int (nI k)] h n (.inl (some (.int (nI (sLeft σ k)))), (· = h), some n) 0 0 := by
  refine eM.of RX10 "endsIn" [(0, .ref b), (1, .int (nI k))] pn_X10 rfl rfl (Nat.le_of_ble_eq_true rfl) rfl ?_
  obtain ⟨o0, -, oR, -⟩ := id hO
  refine ev_aload_n dX10_endsIn_0 rfl rfl ?_
  refine ev_iload_n dX10_endsIn_1 rfl rfl ?_
  refine ev_callVv dX10_endsIn_2 (c_X10_requireName hO hK.1 hk) rfl lk_X10_165 (by first | assumption | omega | exact ePp.ob (by assumption) | exact eNm.ob (by assumption) | exact eRg.ob (by assumption) | exact eTx.ob (by assumption) | exact ePa.ob (by assumption)) ⟨Nat.le_of_ble_eq_true rfl, Nat.le_of_ble_eq_true rfl⟩ rfl (Nat.le_of_ble_eq_true rfl) ⟨by first | exact Nat.le_of_ble_eq_true rfl | omega, by first | exact Nat.le_of_ble_eq_true rfl | omega⟩ (eRo ?_)
  refine ev_aload_n dX10_endsIn_5 rfl rfl ?_
  refine ev_getfield dX10_endsIn_6 fl_X10_19 (by first | assumption | omega | exact ePp.ob (by assumption) | exact eNm.ob (by assumption) | exact eRg.ob (by assumption) | exact eTx.ob (by assumption) | exact ePa.ob (by assumption)) rfl ?_
  refine ev_iload_n dX10_endsIn_9 rfl rfl ?_
  refine ev_callVi dX10_endsIn_10 (c_X5_yearsLeft oR hK hk) rfl lk_X10_287 (by first | assumption | omega | exact ePp.ob (by assumption) | exact eNm.ob (by assumption) | exact eRg.ob (by assumption) | exact eTx.ob (by assumption) | exact ePa.ob (by assumption)) ⟨Nat.le_of_ble_eq_true rfl, Nat.le_of_ble_eq_true rfl⟩ rfl (Nat.le_of_ble_eq_true rfl) ⟨by first | exact Nat.le_of_ble_eq_true rfl | omega, by first | exact Nat.le_of_ble_eq_true rfl | omega⟩ (eRo ?_)
  exact ev_iret dX10_endsIn_13 rfl rfl (by rfl) (by rfl) (fun _ e => Option.some.inj e) (Nat.le_of_ble_eq_true rfl) (Nat.le_of_ble_eq_true rfl)
set_option maxHeartbeats 4000000 in
set_option maxRecDepth 20000 in
theorem c_X10_endsIn_1 {h : eH} {n b ℓ c : Nat} {z : Int32} {σ : St} {x : Nat → Nat} {τ τs : Nat → St} {us : Nat → Nat} (hO : eNB h b σ x ℓ c τ us τs) (hB : eB σ) (hz : ¬ (0 ≤ z.toInt ∧ z.toInt < (σ 0 1 : Int))) : kX10_endsIn [.ref b, .int z] h n (.inr "java/lang/IndexOutOfBoundsException", (· = h), none) 1 6 := by
  refine eM.of RX10 "endsIn" [(0, .ref b), (1, .int z)] pn_X10 rfl rfl (Nat.le_of_ble_eq_true rfl) rfl ?_
  have o0 := hO.1
  refine ev_aload_n dX10_endsIn_0 rfl rfl ?_
  refine ev_iload_n dX10_endsIn_1 rfl rfl ?_
  refine ev_callVx dX10_endsIn_2 (c_X10_requireName_n hO hB hz) rfl lk_X10_165 (by first | assumption | omega | exact ePp.ob (by assumption) | exact eNm.ob (by assumption) | exact eRg.ob (by assumption) | exact eTx.ob (by assumption) | exact ePa.ob (by assumption)) ⟨Nat.le_of_ble_eq_true rfl, Nat.le_of_ble_eq_true rfl⟩ rfl (Nat.le_of_ble_eq_true rfl) ⟨by first | exact Nat.le_of_ble_eq_true rfl | omega, by first | exact Nat.le_of_ble_eq_true rfl | omega⟩ rfl rfl (fun _ hg_2 => hg_2)
set_option maxHeartbeats 4000000 in
set_option maxRecDepth 20000 in
theorem c_X10_meant {h : eH} {n b ℓ c d m k : Nat} {σ : St} {x : Nat → Nat} {τ τs : Nat → St} {us : Nat → Nat} (hO : eNB h b σ x ℓ c τ us τs) (hK : eOK σ) (hd : d < 4) (hm : m < 2 ^ 31) (hc : k < 2 ^ 31) (hmc : sCode m k = true) : kX10_meant [.ref b, .int (nI d), .int (nI m), .int (nI k), .int (nI 0)] h n (.inl (some (.int (oI (sMeant σ d m k)))), (· = h), some n) 0 0 := by
  refine eM.of RX10 "meant" [(0, .ref b), (1, .int (nI d)), (2, .int (nI m)), (3, .int (nI k)), (4, .int (nI 0))] pn_X10 rfl rfl (Nat.le_of_ble_eq_true rfl) rfl ?_
  obtain ⟨o0, -, oR, -⟩ := id hO
  obtain ⟨r0, oPp, oN, oS⟩ := id oR
  refine ev_iload_n dX10_meant_0 rfl rfl ?_
  refine ev_callSv dX10_meant_1 (c_X10_requireBench hd) lk_X10_211 ⟨Nat.le_of_ble_eq_true rfl, Nat.le_of_ble_eq_true rfl⟩ rfl (Nat.le_of_ble_eq_true rfl) ⟨by first | exact Nat.le_of_ble_eq_true rfl | omega, by first | exact Nat.le_of_ble_eq_true rfl | omega⟩ (eRo ?_)
  refine ev_iload_n dX10_meant_4 rfl rfl ?_
  refine ev_iload_n dX10_meant_5 rfl rfl ?_
  refine ev_callSv dX10_meant_6 (c_X10_requireCode hm hc hmc) lk_X10_214 ⟨Nat.le_of_ble_eq_true rfl, Nat.le_of_ble_eq_true rfl⟩ rfl (Nat.le_of_ble_eq_true rfl) ⟨by first | exact Nat.le_of_ble_eq_true rfl | omega, by first | exact Nat.le_of_ble_eq_true rfl | omega⟩ (eRo ?_)
  refine ev_iload dX10_meant_9 rfl ?_
  refine ev_lookup (off := 25) (tgt := 36) dX10_meant_11 (by decide +kernel) (by decide +kernel) (by decide) ?_
  refine ev_aload_n dX10_meant_36 rfl rfl ?_
  refine ev_getfield dX10_meant_37 fl_X10_19 (by first | assumption | omega | exact ePp.ob (by assumption) | exact eNm.ob (by assumption) | exact eRg.ob (by assumption) | exact eTx.ob (by assumption) | exact ePa.ob (by assumption)) rfl ?_
  refine ev_iload_n dX10_meant_40 rfl rfl ?_
  refine ev_iload_n dX10_meant_41 rfl rfl ?_
  refine ev_iload_n dX10_meant_42 rfl rfl ?_
  refine ev_callVi dX10_meant_43 (c_X5_meantByPeople oR hK (Nat.lt_trans hd (by decide)) hm hc) rfl lk_X10_218 (by first | assumption | omega | exact ePp.ob (by assumption) | exact eNm.ob (by assumption) | exact eRg.ob (by assumption) | exact eTx.ob (by assumption) | exact ePa.ob (by assumption)) ⟨Nat.le_of_ble_eq_true rfl, Nat.le_of_ble_eq_true rfl⟩ rfl (Nat.le_of_ble_eq_true rfl) ⟨by first | exact Nat.le_of_ble_eq_true rfl | omega, by first | exact Nat.le_of_ble_eq_true rfl | omega⟩ (eRo ?_)
  exact ev_iret dX10_meant_46 rfl rfl (by rfl) (by rfl) (fun _ e => Option.some.inj e) (Nat.le_of_ble_eq_true rfl) (Nat.le_of_ble_eq_true rfl)
set_option maxHeartbeats 4000000 in
set_option maxRecDepth 20000 in
theorem c_X10_meant_b {h : eH} {n b ℓ c d m k : Nat} {σ : St} {x : Nat → Nat} {τ τs : Nat → St} {us : Nat → Nat} (hO : eNB h b σ x ℓ c τ us τs) (hK : eOK σ) (hd : d < 4) (hm : m < 2 ^ 31) (hc : k < 2 ^ 31) (hmc : sCode m k = true) : kX10_meant [.ref b, .int (nI d), .int (nI m), .int (nI k), .int (nI 1)] h n (.inl (some (.int (oI (sMeantN σ d m k)))), (· = h), some n) 0 0 := by
  refine eM.of RX10 "meant" [(0, .ref b), (1, .int (nI d)), (2, .int (nI m)), (3, .int (nI k)), (4, .int (nI 1))] pn_X10 rfl rfl (Nat.le_of_ble_eq_true rfl) rfl ?_
  obtain ⟨o0, -, oR, -⟩ := id hO
  obtain ⟨r0, oPp, oN, oS⟩ := id oR
  refine ev_iload_n dX10_meant_0 rfl rfl ?_
  refine ev_callSv dX10_meant_1 (c_X10_requireBench hd) lk_X10_211 ⟨Nat.le_of_ble_eq_true rfl, Nat.le_of_ble_eq_true rfl⟩ rfl (Nat.le_of_ble_eq_true rfl) ⟨by first | exact Nat.le_of_ble_eq_true rfl | omega, by first | exact Nat.le_of_ble_eq_true rfl | omega⟩ (eRo ?_)
  refine ev_iload_n dX10_meant_4 rfl rfl ?_
  refine ev_iload_n dX10_meant_5 rfl rfl ?_
  refine ev_callSv dX10_meant_6 (c_X10_requireCode hm hc hmc) lk_X10_214 ⟨Nat.le_of_ble_eq_true rfl, Nat.le_of_ble_eq_true rfl⟩ rfl (Nat.le_of_ble_eq_true rfl) ⟨by first | exact Nat.le_of_ble_eq_true rfl | omega, by first | exact Nat.le_of_ble_eq_true rfl | omega⟩ (eRo ?_)
  refine ev_iload dX10_meant_9 rfl ?_
  refine ev_lookup (off := 36) (tgt := 47) dX10_meant_11 (by decide +kernel) (by decide +kernel) (by decide) ?_
  refine ev_aload_n dX10_meant_47 rfl rfl ?_
  refine ev_getfield dX10_meant_48 fl_X10_19 (by first | assumption | omega | exact ePp.ob (by assumption) | exact eNm.ob (by assumption) | exact eRg.ob (by assumption) | exact eTx.ob (by assumption) | exact ePa.ob (by assumption)) rfl ?_
  refine ev_iload_n dX10_meant_51 rfl rfl ?_
  refine ev_iload_n dX10_meant_52 rfl rfl ?_
  refine ev_iload_n dX10_meant_53 rfl rfl ?_
  refine ev_callVi dX10_meant_54 (c_X5_meantByNames oR hK (Nat.lt_trans hd (by decide)) hm hc) rfl lk_X10_221 (by first | assumption | omega | exact ePp.ob (by assumption) | exact eNm.ob (by assumption) | exact eRg.ob (by assumption) | exact eTx.ob (by assumption) | exact ePa.ob (by assumption)) ⟨Nat.le_of_ble_eq_true rfl, Nat.le_of_ble_eq_true rfl⟩ rfl (Nat.le_of_ble_eq_true rfl) ⟨by first | exact Nat.le_of_ble_eq_true rfl | omega, by first | exact Nat.le_of_ble_eq_true rfl | omega⟩ (eRo ?_)
  exact ev_iret dX10_meant_57 rfl rfl (by rfl) (by rfl) (fun _ e => Option.some.inj e) (Nat.le_of_ble_eq_true rfl) (Nat.le_of_ble_eq_true rfl)
set_option maxHeartbeats 4000000 in
set_option maxRecDepth 20000 in
theorem c_X10_meant_1 {h : eH} {n b : Nat} {z z2 z3 z4 : Int32} (hz : ¬ (0 ≤ z.toInt ∧ z.toInt < (4 : Nat))) : kX10_meant [.ref b, .int z, .int z2, .int z3, .int z4] h n (.inr "java/lang/IndexOutOfBoundsException", (· = h), none) 1 6 := by
  refine eM.of RX10 "meant" [(0, .ref b), (1, .int z), (2, .int z2), (3, .int z3), (4, .int z4)] pn_X10 rfl rfl (Nat.le_of_ble_eq_true rfl) rfl ?_
  refine ev_iload_n dX10_meant_0 rfl rfl ?_
  refine ev_callSx dX10_meant_1 (c_X10_requireBench_n hz) lk_X10_211 ⟨Nat.le_of_ble_eq_true rfl, Nat.le_of_ble_eq_true rfl⟩ rfl (Nat.le_of_ble_eq_true rfl) ⟨by first | exact Nat.le_of_ble_eq_true rfl | omega, by first | exact Nat.le_of_ble_eq_true rfl | omega⟩ rfl rfl (fun _ hg_1 => hg_1)
set_option maxHeartbeats 4000000 in
set_option maxRecDepth 20000 in
theorem c_X10_meant_2 {h : eH} {n b d : Nat} {z2 z3 z4 : Int32} (hd : d < 4) (hz : ¬ ((1 ≤ z2.toInt ∧ z2.toInt < (5 : Nat)) ∧ 0 ≤ z3.toInt ∧ z3.toInt < ((26 ^ z2.toInt.toNat : Nat) : Int))) : kX10_meant [.ref b, .int (nI d), .int z2, .int z3, .int z4] h n (.inr "java/lang/IllegalArgumentException", (· = h), none) 1 6 := by
  refine eM.of RX10 "meant" [(0, .ref b), (1, .int (nI d)), (2, .int z2), (3, .int z3), (4, .int z4)] pn_X10 rfl rfl (Nat.le_of_ble_eq_true rfl) rfl ?_
  refine ev_iload_n dX10_meant_0 rfl rfl ?_
  refine ev_callSv dX10_meant_1 (c_X10_requireBench hd) lk_X10_211 ⟨Nat.le_of_ble_eq_true rfl, Nat.le_of_ble_eq_true rfl⟩ rfl (Nat.le_of_ble_eq_true rfl) ⟨by first | exact Nat.le_of_ble_eq_true rfl | omega, by first | exact Nat.le_of_ble_eq_true rfl | omega⟩ (eRo ?_)
  refine ev_iload_n dX10_meant_4 rfl rfl ?_
  refine ev_iload_n dX10_meant_5 rfl rfl ?_
  refine ev_callSx dX10_meant_6 (c_X10_requireCode_n hz) lk_X10_214 ⟨Nat.le_of_ble_eq_true rfl, Nat.le_of_ble_eq_true rfl⟩ rfl (Nat.le_of_ble_eq_true rfl) ⟨by first | exact Nat.le_of_ble_eq_true rfl | omega, by first | exact Nat.le_of_ble_eq_true rfl | omega⟩ rfl rfl (fun _ hg_6 => hg_6)
theorem lk01 {x : Int32} (hx : ¬ (0 ≤ x.toInt ∧ x.toInt < (2 : Nat))) : Op.lookupswitch.offset (#[(0, 25), (1, 36)] : Array (Int × Int)).toList 47 x.toInt = 47 := by
  have h0 : ¬ x.toInt = 0 := by omega
  have h1 : ¬ x.toInt = 1 := by omega
  have h2 := Ne.symm h0
  have h3 := Ne.symm h1
  simp [Op.lookupswitch.offset, h0, h1, h2, h3]
set_option maxHeartbeats 4000000 in
set_option maxRecDepth 20000 in
theorem c_X10_meant_3 {h : eH} {n b d m k : Nat} {z4 : Int32} (hd : d < 4) (hm : m < 2 ^ 31) (hc : k < 2 ^ 31) (hmc : sCode m k = true) (hz : ¬ (0 ≤ z4.toInt ∧ z4.toInt < (2 : Nat))) : kX10_meant [.ref b, .int (nI d), .int (nI m), .int (nI k), .int z4] h n (.inr "java/lang/IllegalArgumentException", (· = h), none) 1 6 := by
  refine eM.of RX10 "meant" [(0, .ref b), (1, .int (nI d)), (2, .int (nI m)), (3, .int (nI k)), (4, .int z4)] pn_X10 rfl rfl (Nat.le_of_ble_eq_true rfl) rfl ?_
  refine ev_iload_n dX10_meant_0 rfl rfl ?_
  refine ev_callSv dX10_meant_1 (c_X10_requireBench hd) lk_X10_211 ⟨Nat.le_of_ble_eq_true rfl, Nat.le_of_ble_eq_true rfl⟩ rfl (Nat.le_of_ble_eq_true rfl) ⟨by first | exact Nat.le_of_ble_eq_true rfl | omega, by first | exact Nat.le_of_ble_eq_true rfl | omega⟩ (eRo ?_)
  refine ev_iload_n dX10_meant_4 rfl rfl ?_
  refine ev_iload_n dX10_meant_5 rfl rfl ?_
  refine ev_callSv dX10_meant_6 (c_X10_requireCode hm hc hmc) lk_X10_214 ⟨Nat.le_of_ble_eq_true rfl, Nat.le_of_ble_eq_true rfl⟩ rfl (Nat.le_of_ble_eq_true rfl) ⟨by first | exact Nat.le_of_ble_eq_true rfl | omega, by first | exact Nat.le_of_ble_eq_true rfl | omega⟩ (eRo ?_)
  refine ev_iload dX10_meant_9 rfl ?_
  refine ev_lookup (off := 47) (tgt := 58) dX10_meant_11 (by decide +kernel) (lk01 hz) (by decide) ?_
  exact ev_throwS (text := "a way is 0 or 1") dX10_meant_58 dX10_meant_61 dX10_meant_62 dX10_meant_64 dX10_meant_67 (by decide +kernel) (by decide +kernel) wk_X10_47 wi_java_lang_IllegalArgumentException (by decide +kernel) th_X10_51 tg_X10_47_51 rfl (Nat.le_of_ble_eq_true rfl) (Nat.le_of_ble_eq_true rfl) (Nat.le_of_ble_eq_true rfl) (Nat.le_of_ble_eq_true rfl) rfl (by rfl)

