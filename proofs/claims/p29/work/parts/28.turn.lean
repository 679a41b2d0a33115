section TRules
variable {M : eMI} {pc : Nat} {lv : List (Nat × Value)} {st : List Value} {w : eH × Nat × Nat × Nat} {r : eRes} {mc ms : Nat}
theorem ev_tabN {dflt lo hi : Int} {offs : Array Int} {len v : Nat} {off : Int} {tgt : Nat} (d : decode M.1 pc = .ok (.tableswitch dflt lo hi offs, len)) (hv : v < 2 ^ 31) (h1 : lo ≤ (v : Int)) (h2 : (v : Int) ≤ hi) (ho : offs[((v : Int) - lo).toNat]? = some off) (ht : (pc : Int) + off = (tgt : Int)) (k : eV M tgt lv st w r mc ms) : eV M pc lv (.int (nI v) :: st) w r mc ms :=
  ev_tableIn d (by rw [nI_toInt hv]; omega) (by rw [nI_toInt hv]; omega) (by rw [nI_toInt hv]; exact ho) ht k
theorem ev_tabOutN {dflt lo hi : Int} {offs : Array Int} {len v : Nat} {tgt : Nat} (d : decode M.1 pc = .ok (.tableswitch dflt lo hi offs, len)) (hv : v < 2 ^ 31) (h : (v : Int) < lo ∨ hi < (v : Int)) (ht : (pc : Int) + dflt = (tgt : Int)) (k : eV M tgt lv st w r mc ms) : eV M pc lv (.int (nI v) :: st) w r mc ms :=
  ev_tableOut d (by rw [nI_toInt hv]; exact h) ht k
end TRules
def sTurn (σ : St) (n : Nat) : St :=
  if n % 16 ≤ 1 then sPerson σ (n / 16 % 60) (n / 16 / 64 % 6) (n / 16 / 512 % 4)
  else if n % 16 ≤ 5 then sGive σ (n / 16 % 12) (n / 16 / 16 % 12) 1 (n / 16 / 256 % 8)
  else if n % 16 ≤ 11 then sCall σ (n / 16 % 4) 1 (n / 16 / 4 % 8)
  else if n % 16 = 12 then sSit σ (n / 16 % 12) (n / 16 / 16 % 4)
  else if n % 16 = 13 then sSet σ (n / 16 % 3) (1 + n / 16 / 4 % 4)
  else sPass σ (1 + n / 16 % 2)
theorem sTurn_p {σ : St} {n : Nat} (h : n % 16 ≤ 1) : sTurn σ n = sPerson σ (n / 16 % 60) (n / 16 / 64 % 6) (n / 16 / 512 % 4) := if_pos h
theorem sTurn_g {σ : St} {n : Nat} (h : 1 < n % 16 ∧ n % 16 ≤ 5) : sTurn σ n = sGive σ (n / 16 % 12) (n / 16 / 16 % 12) 1 (n / 16 / 256 % 8) := by unfold sTurn; rw [if_neg (by omega), if_pos h.2]
theorem sTurn_c {σ : St} {n : Nat} (h : 5 < n % 16 ∧ n % 16 ≤ 11) : sTurn σ n = sCall σ (n / 16 % 4) 1 (n / 16 / 4 % 8) := by unfold sTurn; rw [if_neg (by omega), if_neg (by omega), if_pos h.2]
theorem sTurn_b {σ : St} {n : Nat} (h : n % 16 = 12) : sTurn σ n = sSit σ (n / 16 % 12) (n / 16 / 16 % 4) := by unfold sTurn; rw [if_neg (by omega), if_neg (by omega), if_neg (by omega), if_pos h]
theorem sTurn_s {σ : St} {n : Nat} (h : n % 16 = 13) : sTurn σ n = sSet σ (n / 16 % 3) (1 + n / 16 / 4 % 4) := by unfold sTurn; rw [if_neg (by omega), if_neg (by omega), if_neg (by omega), if_neg (by omega), if_pos h]
theorem sTurn_y {σ : St} {n : Nat} (h : 13 < n % 16) : sTurn σ n = sPass σ (1 + n / 16 % 2) := by unfold sTurn; rw [if_neg (by omega), if_neg (by omega), if_neg (by omega), if_neg (by omega), if_neg (by omega)]
theorem eIv.turn {σ : St} {T n : Nat} (h : eIv σ T) : eIv (sTurn σ n) (T + 1) := by
  unfold sTurn
  split
  · exact h.person.mono (Nat.le_succ T)
  split
  · exact h.give.mono (Nat.le_succ T)
  split
  · exact h.call
  split
  · exact h.sitting.mono (Nat.le_succ T)
  split
  · exact h.setting.mono (Nat.le_succ T)
  · exact h.pass.mono (Nat.le_succ T)
set_option maxHeartbeats 4000000 in
set_option maxRecDepth 20000 in
theorem c_X7_takeTurn {h : eH} {n r T v : Nat} {σ : St} (hR : eRg h r σ) (hI : eIv σ T) (hT : T < 2 ^ 30) (hv : v < 2 ^ 31) : kX7_takeTurn [.ref r, .int (nI v)] h n (.inl none, (fun g => eRg g r (sTurn σ v) ∧ eFr h g r (r + 17)), some n) 0 0 := by
  refine eM.of RX7 "takeTurn" [(0, .ref r), (1, .int (nI v))] pn_X7 rfl rfl (Nat.le_of_ble_eq_true rfl) rfl ?_
  have FR : eFr h h r (r + 17) := eFr.rf
  refine ev_iload_n dX7_takeTurn_0 rfl rfl ?_
  refine ev_bipush (v := nI 16) dX7_takeTurn_1 rfl ?_
  first | refine ev_idivN dX7_takeTurn_3 (by omega) (by first | assumption | omega | exact ePp.ob (by assumption) | exact eNm.ob (by assumption) | exact eRg.ob (by assumption) | exact eTx.ob (by assumption) | exact ePa.ob (by assumption)) (by omega) ?_ | refine ev_idiv dX7_takeTurn_3 (by decide) ?_
  refine ev_istore_n dX7_takeTurn_4 rfl (Nat.le_of_ble_eq_true rfl) ?_
  refine ev_iload_n dX7_takeTurn_5 rfl rfl ?_
  refine ev_bipush (v := nI 16) dX7_takeTurn_6 rfl ?_
  first | refine ev_iremN dX7_takeTurn_8 (by omega) (by first | assumption | omega | exact ePp.ob (by assumption) | exact eNm.ob (by assumption) | exact eRg.ob (by assumption) | exact eTx.ob (by assumption) | exact ePa.ob (by assumption)) (by omega) ?_ | refine ev_irem dX7_takeTurn_8 (by decide) ?_
  by_cases z_9_0 : v % 16 = 0
  · refine ev_tabN (off := 71) (tgt := 80) dX7_takeTurn_9 (by rw [z_9_0]; decide) (by rw [z_9_0]; decide) (by rw [z_9_0]; decide) (by rw [z_9_0]; rfl) (by decide) ?_
    refine ev_aload_n dX7_takeTurn_80 rfl rfl ?_
    refine ev_iload_n dX7_takeTurn_81 rfl rfl ?_
    refine ev_bipush (v := nI 60) dX7_takeTurn_82 rfl ?_
    first | refine ev_iremN dX7_takeTurn_84 (by omega) (by first | assumption | omega | exact ePp.ob (by assumption) | exact eNm.ob (by assumption) | exact eRg.ob (by assumption) | exact eTx.ob (by assumption) | exact ePa.ob (by assumption)) (by omega) ?_ | refine ev_irem dX7_takeTurn_84 (by decide) ?_
    refine ev_iload_n dX7_takeTurn_85 rfl rfl ?_
    refine ev_bipush (v := nI 64) dX7_takeTurn_86 rfl ?_
    first | refine ev_idivN dX7_takeTurn_88 (by omega) (by first | assumption | omega | exact ePp.ob (by assumption) | exact eNm.ob (by assumption) | exact eRg.ob (by assumption) | exact eTx.ob (by assumption) | exact ePa.ob (by assumption)) (by omega) ?_ | refine ev_idiv dX7_takeTurn_88 (by decide) ?_
    refine ev_bipush (v := nI 6) dX7_takeTurn_89 rfl ?_
    first | refine ev_iremN dX7_takeTurn_91 (by omega) (by first | assumption | omega | exact ePp.ob (by assumption) | exact eNm.ob (by assumption) | exact eRg.ob (by assumption) | exact eTx.ob (by assumption) | exact ePa.ob (by assumption)) (by omega) ?_ | refine ev_irem dX7_takeTurn_91 (by decide) ?_
    refine ev_iload_n dX7_takeTurn_92 rfl rfl ?_
    refine ev_sipush (v := nI 512) dX7_takeTurn_93 rfl ?_
    first | refine ev_idivN dX7_takeTurn_96 (by omega) (by first | assumption | omega | exact ePp.ob (by assumption) | exact eNm.ob (by assumption) | exact eRg.ob (by assumption) | exact eTx.ob (by assumption) | exact ePa.ob (by assumption)) (by omega) ?_ | refine ev_idiv dX7_takeTurn_96 (by decide) ?_
    refine ev_iconst (v := nI 4) dX7_takeTurn_97 rfl ?_
    first | refine ev_iremN dX7_takeTurn_98 (by omega) (by first | assumption | omega | exact ePp.ob (by assumption) | exact eNm.ob (by assumption) | exact eRg.ob (by assumption) | exact eTx.ob (by assumption) | exact ePa.ob (by assumption)) (by omega) ?_ | refine ev_irem dX7_takeTurn_98 (by decide) ?_
    refine ev_callVi dX7_takeTurn_99 (c_X5_triesPerson hR hI hT (by omega) (by omega) (by omega)) rfl lk_X7_7 (by first | assumption | omega | exact ePp.ob (by assumption) | exact eNm.ob (by assumption) | exact eRg.ob (by assumption) | exact eTx.ob (by assumption) | exact ePa.ob (by assumption)) ⟨Nat.le_of_ble_eq_true rfl, Nat.le_of_ble_eq_true rfl⟩ rfl (Nat.le_of_ble_eq_true rfl) ⟨Nat.le_of_ble_eq_true rfl, Nat.le_of_ble_eq_true rfl⟩ (fun g_99 hg_99 => ?_)
    obtain ⟨w_99, fr_99⟩ := hg_99
    replace hR := w_99
    first | replace FR := eFr.trans FR (eFr.one fr_99 (by omega) (by omega)) | replace FR := eFr.trans FR (eFr.wide fr_99 (by omega) (by omega))
    refine ev_pop dX7_takeTurn_102 rfl ?_
    refine ev_goto (tgt := 198) dX7_takeTurn_103 (by decide) ?_
    exact ev_vret dX7_takeTurn_198 rfl rfl (by first | exact ⟨by rw [sTurn_p (by omega)]; exact hR, FR⟩ | exact ⟨by rw [sTurn_g (by omega)]; exact hR, FR⟩ | exact ⟨by rw [sTurn_c (by omega)]; exact hR, FR⟩ | exact ⟨by rw [sTurn_b (by omega)]; exact hR, FR⟩ | exact ⟨by rw [sTurn_s (by omega)]; exact hR, FR⟩ | exact ⟨by rw [sTurn_y (by omega)]; exact hR, FR⟩) (fun _ e => Option.some.inj e) (Nat.le_of_ble_eq_true rfl) (Nat.le_of_ble_eq_true rfl)
  by_cases z_9_1 : v % 16 = 1
  · refine ev_tabN (off := 71) (tgt := 80) dX7_takeTurn_9 (by rw [z_9_1]; decide) (by rw [z_9_1]; decide) (by rw [z_9_1]; decide) (by rw [z_9_1]; rfl) (by decide) ?_
    refine ev_aload_n dX7_takeTurn_80 rfl rfl ?_
    refine ev_iload_n dX7_takeTurn_81 rfl rfl ?_
    refine ev_bipush (v := nI 60) dX7_takeTurn_82 rfl ?_
    first | refine ev_iremN dX7_takeTurn_84 (by omega) (by first | assumption | omega | exact ePp.ob (by assumption) | exact eNm.ob (by assumption) | exact eRg.ob (by assumption) | exact eTx.ob (by assumption) | exact ePa.ob (by assumption)) (by omega) ?_ | refine ev_irem dX7_takeTurn_84 (by decide) ?_
    refine ev_iload_n dX7_takeTurn_85 rfl rfl ?_
    refine ev_bipush (v := nI 64) dX7_takeTurn_86 rfl ?_
    first | refine ev_idivN dX7_takeTurn_88 (by omega) (by first | assumption | omega | exact ePp.ob (by assumption) | exact eNm.ob (by assumption) | exact eRg.ob (by assumption) | exact eTx.ob (by assumption) | exact ePa.ob (by assumption)) (by omega) ?_ | refine ev_idiv dX7_takeTurn_88 (by decide) ?_
    refine ev_bipush (v := nI 6) dX7_takeTurn_89 rfl ?_
    first | refine ev_iremN dX7_takeTurn_91 (by omega) (by first | assumption | omega | exact ePp.ob (by assumption) | exact eNm.ob (by assumption) | exact eRg.ob (by assumption) | exact eTx.ob (by assumption) | exact ePa.ob (by assumption)) (by omega) ?_ | refine ev_irem dX7_takeTurn_91 (by decide) ?_
    refine ev_iload_n dX7_takeTurn_92 rfl rfl ?_
    refine ev_sipush (v := nI 512) dX7_takeTurn_93 rfl ?_
    first | refine ev_idivN dX7_takeTurn_96 (by omega) (by first | assumption | omega | exact ePp.ob (by assumption) | exact eNm.ob (by assumption) | exact eRg.ob (by assumption) | exact eTx.ob (by assumption) | exact ePa.ob (by assumption)) (by omega) ?_ | refine ev_idiv dX7_takeTurn_96 (by decide) ?_
    refine ev_iconst (v := nI 4) dX7_takeTurn_97 rfl ?_
    first | refine ev_iremN dX7_takeTurn_98 (by omega) (by first | assumption | omega | exact ePp.ob (by assumption) | exact eNm.ob (by assumption) | exact eRg.ob (by assumption) | exact eTx.ob (by assumption) | exact ePa.ob (by assumption)) (by omega) ?_ | refine ev_irem dX7_takeTurn_98 (by decide) ?_
    refine ev_callVi dX7_takeTurn_99 (c_X5_triesPerson hR hI hT (by omega) (by omega) (by omega)) rfl lk_X7_7 (by first | assumption | omega | exact ePp.ob (by assumption) | exact eNm.ob (by assumption) | exact eRg.ob (by assumption) | exact eTx.ob (by assumption) | exact ePa.ob (by assumption)) ⟨Nat.le_of_ble_eq_true rfl, Nat.le_of_ble_eq_true rfl⟩ rfl (Nat.le_of_ble_eq_true rfl) ⟨Nat.le_of_ble_eq_true rfl, Nat.le_of_ble_eq_true rfl⟩ (fun g_99 hg_99 => ?_)
    obtain ⟨w_99, fr_99⟩ := hg_99
    replace hR := w_99
    first | replace FR := eFr.trans FR (eFr.one fr_99 (by omega) (by omega)) | replace FR := eFr.trans FR (eFr.wide fr_99 (by omega) (by omega))
    refine ev_pop dX7_takeTurn_102 rfl ?_
    refine ev_goto (tgt := 198) dX7_takeTurn_103 (by decide) ?_
    exact ev_vret dX7_takeTurn_198 rfl rfl (by first | exact ⟨by rw [sTurn_p (by omega)]; exact hR, FR⟩ | exact ⟨by rw [sTurn_g (by omega)]; exact hR, FR⟩ | exact ⟨by rw [sTurn_c (by omega)]; exact hR, FR⟩ | exact ⟨by rw [sTurn_b (by omega)]; exact hR, FR⟩ | exact ⟨by rw [sTurn_s (by omega)]; exact hR, FR⟩ | exact ⟨by rw [sTurn_y (by omega)]; exact hR, FR⟩) (fun _ e => Option.some.inj e) (Nat.le_of_ble_eq_true rfl) (Nat.le_of_ble_eq_true rfl)
  by_cases z_9_2 : v % 16 = 2
  · refine ev_tabN (off := 97) (tgt := 106) dX7_takeTurn_9 (by rw [z_9_2]; decide) (by rw [z_9_2]; decide) (by rw [z_9_2]; decide) (by rw [z_9_2]; rfl) (by decide) ?_
    refine ev_aload_n dX7_takeTurn_106 rfl rfl ?_
    refine ev_iload_n dX7_takeTurn_107 rfl rfl ?_
    refine ev_bipush (v := nI 12) dX7_takeTurn_108 rfl ?_
    first | refine ev_iremN dX7_takeTurn_110 (by omega) (by first | assumption | omega | exact ePp.ob (by assumption) | exact eNm.ob (by assumption) | exact eRg.ob (by assumption) | exact eTx.ob (by assumption) | exact ePa.ob (by assumption)) (by omega) ?_ | refine ev_irem dX7_takeTurn_110 (by decide) ?_
    refine ev_iload_n dX7_takeTurn_111 rfl rfl ?_
    refine ev_bipush (v := nI 16) dX7_takeTurn_112 rfl ?_
    first | refine ev_idivN dX7_takeTurn_114 (by omega) (by first | assumption | omega | exact ePp.ob (by assumption) | exact eNm.ob (by assumption) | exact eRg.ob (by assumption) | exact eTx.ob (by assumption) | exact ePa.ob (by assumption)) (by omega) ?_ | refine ev_idiv dX7_takeTurn_114 (by decide) ?_
    refine ev_bipush (v := nI 12) dX7_takeTurn_115 rfl ?_
    first | refine ev_iremN dX7_takeTurn_117 (by omega) (by first | assumption | omega | exact ePp.ob (by assumption) | exact eNm.ob (by assumption) | exact eRg.ob (by assumption) | exact eTx.ob (by assumption) | exact ePa.ob (by assumption)) (by omega) ?_ | refine ev_irem dX7_takeTurn_117 (by decide) ?_
    refine ev_iconst (v := nI 1) dX7_takeTurn_118 rfl ?_
    refine ev_iload_n dX7_takeTurn_119 rfl rfl ?_
    refine ev_sipush (v := nI 256) dX7_takeTurn_120 rfl ?_
    first | refine ev_idivN dX7_takeTurn_123 (by omega) (by first | assumption | omega | exact ePp.ob (by assumption) | exact eNm.ob (by assumption) | exact eRg.ob (by assumption) | exact eTx.ob (by assumption) | exact ePa.ob (by assumption)) (by omega) ?_ | refine ev_idiv dX7_takeTurn_123 (by decide) ?_
    refine ev_bipush (v := nI 8) dX7_takeTurn_124 rfl ?_
    first | refine ev_iremN dX7_takeTurn_126 (by omega) (by first | assumption | omega | exact ePp.ob (by assumption) | exact eNm.ob (by assumption) | exact eRg.ob (by assumption) | exact eTx.ob (by assumption) | exact ePa.ob (by assumption)) (by omega) ?_ | refine ev_irem dX7_takeTurn_126 (by decide) ?_
    refine ev_callVi dX7_takeTurn_127 (c_X5_triesGiving hR hI hT (by omega) (by omega) (by decide) (by omega)) rfl lk_X7_13 (by first | assumption | omega | exact ePp.ob (by assumption) | exact eNm.ob (by assumption) | exact eRg.ob (by assumption) | exact eTx.ob (by assumption) | exact ePa.ob (by assumption)) ⟨Nat.le_of_ble_eq_true rfl, Nat.le_of_ble_eq_true rfl⟩ rfl (Nat.le_of_ble_eq_true rfl) ⟨Nat.le_of_ble_eq_true rfl, Nat.le_of_ble_eq_true rfl⟩ (fun g_127 hg_127 => ?_)
    obtain ⟨w_127, fr_127⟩ := hg_127
    replace hR := w_127
    first | replace FR := eFr.trans FR (eFr.one fr_127 (by omega) (by omega)) | replace FR := eFr.trans FR (eFr.wide fr_127 (by omega) (by omega))
    refine ev_pop dX7_takeTurn_130 rfl ?_
    refine ev_goto (tgt := 198) dX7_takeTurn_131 (by decide) ?_
    exact ev_vret dX7_takeTurn_198 rfl rfl (by first | exact ⟨by rw [sTurn_p (by omega)]; exact hR, FR⟩ | exact ⟨by rw [sTurn_g (by omega)]; exact hR, FR⟩ | exact ⟨by rw [sTurn_c (by omega)]; exact hR, FR⟩ | exact ⟨by rw [sTurn_b (by omega)]; exact hR, FR⟩ | exact ⟨by rw [sTurn_s (by omega)]; exact hR, FR⟩ | exact ⟨by rw [sTurn_y (by omega)]; exact hR, FR⟩) (fun _ e => Option.some.inj e) (Nat.le_of_ble_eq_true rfl) (Nat.le_of_ble_eq_true rfl)
  by_cases z_9_3 : v % 16 = 3
  · refine ev_tabN (off := 97) (tgt := 106) dX7_takeTurn_9 (by rw [z_9_3]; decide) (by rw [z_9_3]; decide) (by rw [z_9_3]; decide) (by rw [z_9_3]; rfl) (by decide) ?_
    refine ev_aload_n dX7_takeTurn_106 rfl rfl ?_
    refine ev_iload_n dX7_takeTurn_107 rfl rfl ?_
    refine ev_bipush (v := nI 12) dX7_takeTurn_108 rfl ?_
    first | refine ev_iremN dX7_takeTurn_110 (by omega) (by first | assumption | omega | exact ePp.ob (by assumption) | exact eNm.ob (by assumption) | exact eRg.ob (by assumption) | exact eTx.ob (by assumption) | exact ePa.ob (by assumption)) (by omega) ?_ | refine ev_irem dX7_takeTurn_110 (by decide) ?_
    refine ev_iload_n dX7_takeTurn_111 rfl rfl ?_
    refine ev_bipush (v := nI 16) dX7_takeTurn_112 rfl ?_
    first | refine ev_idivN dX7_takeTurn_114 (by omega) (by first | assumption | omega | exact ePp.ob (by assumption) | exact eNm.ob (by assumption) | exact eRg.ob (by assumption) | exact eTx.ob (by assumption) | exact ePa.ob (by assumption)) (by omega) ?_ | refine ev_idiv dX7_takeTurn_114 (by decide) ?_
    refine ev_bipush (v := nI 12) dX7_takeTurn_115 rfl ?_
    first | refine ev_iremN dX7_takeTurn_117 (by omega) (by first | assumption | omega | exact ePp.ob (by assumption) | exact eNm.ob (by assumption) | exact eRg.ob (by assumption) | exact eTx.ob (by assumption) | exact ePa.ob (by assumption)) (by omega) ?_ | refine ev_irem dX7_takeTurn_117 (by decide) ?_
    refine ev_iconst (v := nI 1) dX7_takeTurn_118 rfl ?_
    refine ev_iload_n dX7_takeTurn_119 rfl rfl ?_
    refine ev_sipush (v := nI 256) dX7_takeTurn_120 rfl ?_
    first | refine ev_idivN dX7_takeTurn_123 (by omega) (by first | assumption | omega | exact ePp.ob (by assumption) | exact eNm.ob (by assumption) | exact eRg.ob (by assumption) | exact eTx.ob (by assumption) | exact ePa.ob (by assumption)) (by omega) ?_ | refine ev_idiv dX7_takeTurn_123 (by decide) ?_
    refine ev_bipush (v := nI 8) dX7_takeTurn_124 rfl ?_
    first | refine ev_iremN dX7_takeTurn_126 (by omega) (by first | assumption | omega | exact ePp.ob (by assumption) | exact eNm.ob (by assumption) | exact eRg.ob (by assumption) | exact eTx.ob (by assumption) | exact ePa.ob (by assumption)) (by omega) ?_ | refine ev_irem dX7_takeTurn_126 (by decide) ?_
    refine ev_callVi dX7_takeTurn_127 (c_X5_triesGiving hR hI hT (by omega) (by omega) (by decide) (by omega)) rfl lk_X7_13 (by first | assumption | omega | exact ePp.ob (by assumption) | exact eNm.ob (by assumption) | exact eRg.ob (by assumption) | exact eTx.ob (by assumption) | exact ePa.ob (by assumption)) ⟨Nat.le_of_ble_eq_true rfl, Nat.le_of_ble_eq_true rfl⟩ rfl (Nat.le_of_ble_eq_true rfl) ⟨Nat.le_of_ble_eq_true rfl, Nat.le_of_ble_eq_true rfl⟩ (fun g_127 hg_127 => ?_)
    obtain ⟨w_127, fr_127⟩ := hg_127
    replace hR := w_127
    first | replace FR := eFr.trans FR (eFr.one fr_127 (by omega) (by omega)) | replace FR := eFr.trans FR (eFr.wide fr_127 (by omega) (by omega))
    refine ev_pop dX7_takeTurn_130 rfl ?_
    refine ev_goto (tgt := 198) dX7_takeTurn_131 (by decide) ?_
    exact ev_vret dX7_takeTurn_198 rfl rfl (by first | exact ⟨by rw [sTurn_p (by omega)]; exact hR, FR⟩ | exact ⟨by rw [sTurn_g (by omega)]; exact hR, FR⟩ | exact ⟨by rw [sTurn_c (by omega)]; exact hR, FR⟩ | exact ⟨by rw [sTurn_b (by omega)]; exact hR, FR⟩ | exact ⟨by rw [sTurn_s (by omega)]; exact hR, FR⟩ | exact ⟨by rw [sTurn_y (by omega)]; exact hR, FR⟩) (fun _ e => Option.some.inj e) (Nat.le_of_ble_eq_true rfl) (Nat.le_of_ble_eq_true rfl)
  by_cases z_9_4 : v % 16 = 4
  · refine ev_tabN (off := 97) (tgt := 106) dX7_takeTurn_9 (by rw [z_9_4]; decide) (by rw [z_9_4]; decide) (by rw [z_9_4]; decide) (by rw [z_9_4]; rfl) (by decide) ?_
    refine ev_aload_n dX7_takeTurn_106 rfl rfl ?_
    refine ev_iload_n dX7_takeTurn_107 rfl rfl ?_
    refine ev_bipush (v := nI 12) dX7_takeTurn_108 rfl ?_
    first | refine ev_iremN dX7_takeTurn_110 (by omega) (by first | assumption | omega | exact ePp.ob (by assumption) | exact eNm.ob (by assumption) | exact eRg.ob (by assumption) | exact eTx.ob (by assumption) | exact ePa.ob (by assumption)) (by omega) ?_ | refine ev_irem dX7_takeTurn_110 (by decide) ?_
    refine ev_iload_n dX7_takeTurn_111 rfl rfl ?_
    refine ev_bipush (v := nI 16) dX7_takeTurn_112 rfl ?_
    first | refine ev_idivN dX7_takeTurn_114 (by omega) (by first | assumption | omega | exact ePp.ob (by assumption) | exact eNm.ob (by assumption) | exact eRg.ob (by assumption) | exact eTx.ob (by assumption) | exact ePa.ob (by assumption)) (by omega) ?_ | refine ev_idiv dX7_takeTurn_114 (by decide) ?_
    refine ev_bipush (v := nI 12) dX7_takeTurn_115 rfl ?_
    first | refine ev_iremN dX7_takeTurn_117 (by omega) (by first | assumption | omega | exact ePp.ob (by assumption) | exact eNm.ob (by assumption) | exact eRg.ob (by assumption) | exact eTx.ob (by assumption) | exact ePa.ob (by assumption)) (by omega) ?_ | refine ev_irem dX7_takeTurn_117 (by decide) ?_
    refine ev_iconst (v := nI 1) dX7_takeTurn_118 rfl ?_
    refine ev_iload_n dX7_takeTurn_119 rfl rfl ?_
    refine ev_sipush (v := nI 256) dX7_takeTurn_120 rfl ?_
    first | refine ev_idivN dX7_takeTurn_123 (by omega) (by first | assumption | omega | exact ePp.ob (by assumption) | exact eNm.ob (by assumption) | exact eRg.ob (by assumption) | exact eTx.ob (by assumption) | exact ePa.ob (by assumption)) (by omega) ?_ | refine ev_idiv dX7_takeTurn_123 (by decide) ?_
    refine ev_bipush (v := nI 8) dX7_takeTurn_124 rfl ?_
    first | refine ev_iremN dX7_takeTurn_126 (by omega) (by first | assumption | omega | exact ePp.ob (by assumption) | exact eNm.ob (by assumption) | exact eRg.ob (by assumption) | exact eTx.ob (by assumption) | exact ePa.ob (by assumption)) (by omega) ?_ | refine ev_irem dX7_takeTurn_126 (by decide) ?_
    refine ev_callVi dX7_takeTurn_127 (c_X5_triesGiving hR hI hT (by omega) (by omega) (by decide) (by omega)) rfl lk_X7_13 (by first | assumption | omega | exact ePp.ob (by assumption) | exact eNm.ob (by assumption) | exact eRg.ob (by assumption) | exact eTx.ob (by assumption) | exact ePa.ob (by assumption)) ⟨Nat.le_of_ble_eq_true rfl, Nat.le_of_ble_eq_true rfl⟩ rfl (Nat.le_of_ble_eq_true rfl) ⟨Nat.le_of_ble_eq_true rfl, Nat.le_of_ble_eq_true rfl⟩ (fun g_127 hg_127 => ?_)
    obtain ⟨w_127, fr_127⟩ := hg_127
    replace hR := w_127
    first | replace FR := eFr.trans FR (eFr.one fr_127 (by omega) (by omega)) | replace FR := eFr.trans FR (eFr.wide fr_127 (by omega) (by omega))
    refine ev_pop dX7_takeTurn_130 rfl ?_
    refine ev_goto (tgt := 198) dX7_takeTurn_131 (by decide) ?_
    exact ev_vret dX7_takeTurn_198 rfl rfl (by first | exact ⟨by rw [sTurn_p (by omega)]; exact hR, FR⟩ | exact ⟨by rw [sTurn_g (by omega)]; exact hR, FR⟩ | exact ⟨by rw [sTurn_c (by omega)]; exact hR, FR⟩ | exact ⟨by rw [sTurn_b (by omega)]; exact hR, FR⟩ | exact ⟨by rw [sTurn_s (by omega)]; exact hR, FR⟩ | exact ⟨by rw [sTurn_y (by omega)]; exact hR, FR⟩) (fun _ e => Option.some.inj e) (Nat.le_of_ble_eq_true rfl) (Nat.le_of_ble_eq_true rfl)
  by_cases z_9_5 : v % 16 = 5
  · refine ev_tabN (off := 97) (tgt := 106) dX7_takeTurn_9 (by rw [z_9_5]; decide) (by rw [z_9_5]; decide) (by rw [z_9_5]; decide) (by rw [z_9_5]; rfl) (by decide) ?_
    refine ev_aload_n dX7_takeTurn_106 rfl rfl ?_
    refine ev_iload_n dX7_takeTurn_107 rfl rfl ?_
    refine ev_bipush (v := nI 12) dX7_takeTurn_108 rfl ?_
    first | refine ev_iremN dX7_takeTurn_110 (by omega) (by first | assumption | omega | exact ePp.ob (by assumption) | exact eNm.ob (by assumption) | exact eRg.ob (by assumption) | exact eTx.ob (by assumption) | exact ePa.ob (by assumption)) (by omega) ?_ | refine ev_irem dX7_takeTurn_110 (by decide) ?_
    refine ev_iload_n dX7_takeTurn_111 rfl rfl ?_
    refine ev_bipush (v := nI 16) dX7_takeTurn_112 rfl ?_
    first | refine ev_idivN dX7_takeTurn_114 (by omega) (by first | assumption | omega | exact ePp.ob (by assumption) | exact eNm.ob (by assumption) | exact eRg.ob (by assumption) | exact eTx.ob (by assumption) | exact ePa.ob (by assumption)) (by omega) ?_ | refine ev_idiv dX7_takeTurn_114 (by decide) ?_
    refine ev_bipush (v := nI 12) dX7_takeTurn_115 rfl ?_
    first | refine ev_iremN dX7_takeTurn_117 (by omega) (by first | assumption | omega | exact ePp.ob (by assumption) | exact eNm.ob (by assumption) | exact eRg.ob (by assumption) | exact eTx.ob (by assumption) | exact ePa.ob (by assumption)) (by omega) ?_ | refine ev_irem dX7_takeTurn_117 (by decide) ?_
    refine ev_iconst (v := nI 1) dX7_takeTurn_118 rfl ?_
    refine ev_iload_n dX7_takeTurn_119 rfl rfl ?_
    refine ev_sipush (v := nI 256) dX7_takeTurn_120 rfl ?_
    first | refine ev_idivN dX7_takeTurn_123 (by omega) (by first | assumption | omega | exact ePp.ob (by assumption) | exact eNm.ob (by assumption) | exact eRg.ob (by assumption) | exact eTx.ob (by assumption) | exact ePa.ob (by assumption)) (by omega) ?_ | refine ev_idiv dX7_takeTurn_123 (by decide) ?_
    refine ev_bipush (v := nI 8) dX7_takeTurn_124 rfl ?_
    first | refine ev_iremN dX7_takeTurn_126 (by omega) (by first | assumption | omega | exact ePp.ob (by assumption) | exact eNm.ob (by assumption) | exact eRg.ob (by assumption) | exact eTx.ob (by assumption) | exact ePa.ob (by assumption)) (by omega) ?_ | refine ev_irem dX7_takeTurn_126 (by decide) ?_
    refine ev_callVi dX7_takeTurn_127 (c_X5_triesGiving hR hI hT (by omega) (by omega) (by decide) (by omega)) rfl lk_X7_13 (by first | assumption | omega | exact ePp.ob (by assumption) | exact eNm.ob (by assumption) | exact eRg.ob (by assumption) | exact eTx.ob (by assumption) | exact ePa.ob (by assumption)) ⟨Nat.le_of_ble_eq_true rfl, Nat.le_of_ble_eq_true rfl⟩ rfl (Nat.le_of_ble_eq_true rfl) ⟨Nat.le_of_ble_eq_true rfl, Nat.le_of_ble_eq_true rfl⟩ (fun g_127 hg_127 => ?_)
    obtain ⟨w_127, fr_127⟩ := hg_127
    replace hR := w_127
    first | replace FR := eFr.trans FR (eFr.one fr_127 (by omega) (by omega)) | replace FR := eFr.trans FR (eFr.wide fr_127 (by omega) (by omega))
    refine ev_pop dX7_takeTurn_130 rfl ?_
    refine ev_goto (tgt := 198) dX7_takeTurn_131 (by decide) ?_
    exact ev_vret dX7_takeTurn_198 rfl rfl (by first | exact ⟨by rw [sTurn_p (by omega)]; exact hR, FR⟩ | exact ⟨by rw [sTurn_g (by omega)]; exact hR, FR⟩ | exact ⟨by rw [sTurn_c (by omega)]; exact hR, FR⟩ | exact ⟨by rw [sTurn_b (by omega)]; exact hR, FR⟩ | exact ⟨by rw [sTurn_s (by omega)]; exact hR, FR⟩ | exact ⟨by rw [sTurn_y (by omega)]; exact hR, FR⟩) (fun _ e => Option.some.inj e) (Nat.le_of_ble_eq_true rfl) (Nat.le_of_ble_eq_true rfl)
  by_cases z_9_6 : v % 16 = 6
  · refine ev_tabN (off := 125) (tgt := 134) dX7_takeTurn_9 (by rw [z_9_6]; decide) (by rw [z_9_6]; decide) (by rw [z_9_6]; decide) (by rw [z_9_6]; rfl) (by decide) ?_
    refine ev_aload_n dX7_takeTurn_134 rfl rfl ?_
    refine ev_iload_n dX7_takeTurn_135 rfl rfl ?_
    refine ev_iconst (v := nI 4) dX7_takeTurn_136 rfl ?_
    first | refine ev_iremN dX7_takeTurn_137 (by omega) (by first | assumption | omega | exact ePp.ob (by assumption) | exact eNm.ob (by assumption) | exact eRg.ob (by assumption) | exact eTx.ob (by assumption) | exact ePa.ob (by assumption)) (by omega) ?_ | refine ev_irem dX7_takeTurn_137 (by decide) ?_
    refine ev_iconst (v := nI 1) dX7_takeTurn_138 rfl ?_
    refine ev_iload_n dX7_takeTurn_139 rfl rfl ?_
    refine ev_iconst (v := nI 4) dX7_takeTurn_140 rfl ?_
    first | refine ev_idivN dX7_takeTurn_141 (by omega) (by first | assumption | omega | exact ePp.ob (by assumption) | exact eNm.ob (by assumption) | exact eRg.ob (by assumption) | exact eTx.ob (by assumption) | exact ePa.ob (by assumption)) (by omega) ?_ | refine ev_idiv dX7_takeTurn_141 (by decide) ?_
    refine ev_bipush (v := nI 8) dX7_takeTurn_142 rfl ?_
    first | refine ev_iremN dX7_takeTurn_144 (by omega) (by first | assumption | omega | exact ePp.ob (by assumption) | exact eNm.ob (by assumption) | exact eRg.ob (by assumption) | exact eTx.ob (by assumption) | exact ePa.ob (by assumption)) (by omega) ?_ | refine ev_irem dX7_takeTurn_144 (by decide) ?_
    refine ev_callVi dX7_takeTurn_145 (c_X5_callFor hR hI hT (by omega) (by decide) (by omega)) rfl lk_X7_17 (by first | assumption | omega | exact ePp.ob (by assumption) | exact eNm.ob (by assumption) | exact eRg.ob (by assumption) | exact eTx.ob (by assumption) | exact ePa.ob (by assumption)) ⟨Nat.le_of_ble_eq_true rfl, Nat.le_of_ble_eq_true rfl⟩ rfl (Nat.le_of_ble_eq_true rfl) ⟨Nat.le_of_ble_eq_true rfl, Nat.le_of_ble_eq_true rfl⟩ (fun g_145 hg_145 => ?_)
    obtain ⟨w_145, fr_145⟩ := hg_145
    replace hR := w_145
    first | replace FR := eFr.trans FR (eFr.one fr_145 (by omega) (by omega)) | replace FR := eFr.trans FR (eFr.wide fr_145 (by omega) (by omega))
    refine ev_pop dX7_takeTurn_148 rfl ?_
    refine ev_goto (tgt := 198) dX7_takeTurn_149 (by decide) ?_
    exact ev_vret dX7_takeTurn_198 rfl rfl (by first | exact ⟨by rw [sTurn_p (by omega)]; exact hR, FR⟩ | exact ⟨by rw [sTurn_g (by omega)]; exact hR, FR⟩ | exact ⟨by rw [sTurn_c (by omega)]; exact hR, FR⟩ | exact ⟨by rw [sTurn_b (by omega)]; exact hR, FR⟩ | exact ⟨by rw [sTurn_s (by omega)]; exact hR, FR⟩ | exact ⟨by rw [sTurn_y (by omega)]; exact hR, FR⟩) (fun _ e => Option.some.inj e) (Nat.le_of_ble_eq_true rfl) (Nat.le_of_ble_eq_true rfl)
  by_cases z_9_7 : v % 16 = 7
  · refine ev_tabN (off := 125) (tgt := 134) dX7_takeTurn_9 (by rw [z_9_7]; decide) (by rw [z_9_7]; decide) (by rw [z_9_7]; decide) (by rw [z_9_7]; rfl) (by decide) ?_
    refine ev_aload_n dX7_takeTurn_134 rfl rfl ?_
    refine ev_iload_n dX7_takeTurn_135 rfl rfl ?_
    refine ev_iconst (v := nI 4) dX7_takeTurn_136 rfl ?_
    first | refine ev_iremN dX7_takeTurn_137 (by omega) (by first | assumption | omega | exact ePp.ob (by assumption) | exact eNm.ob (by assumption) | exact eRg.ob (by assumption) | exact eTx.ob (by assumption) | exact ePa.ob (by assumption)) (by omega) ?_ | refine ev_irem dX7_takeTurn_137 (by decide) ?_
    refine ev_iconst (v := nI 1) dX7_takeTurn_138 rfl ?_
    refine ev_iload_n dX7_takeTurn_139 rfl rfl ?_
    refine ev_iconst (v := nI 4) dX7_takeTurn_140 rfl ?_
    first | refine ev_idivN dX7_takeTurn_141 (by omega) (by first | assumption | omega | exact ePp.ob (by assumption) | exact eNm.ob (by assumption) | exact eRg.ob (by assumption) | exact eTx.ob (by assumption) | exact ePa.ob (by assumption)) (by omega) ?_ | refine ev_idiv dX7_takeTurn_141 (by decide) ?_
    refine ev_bipush (v := nI 8) dX7_takeTurn_142 rfl ?_
    first | refine ev_iremN dX7_takeTurn_144 (by omega) (by first | assumption | omega | exact ePp.ob (by assumption) | exact eNm.ob (by assumption) | exact eRg.ob (by assumption) | exact eTx.ob (by assumption) | exact ePa.ob (by assumption)) (by omega) ?_ | refine ev_irem dX7_takeTurn_144 (by decide) ?_
    refine ev_callVi dX7_takeTurn_145 (c_X5_callFor hR hI hT (by omega) (by decide) (by omega)) rfl lk_X7_17 (by first | assumption | omega | exact ePp.ob (by assumption) | exact eNm.ob (by assumption) | exact eRg.ob (by assumption) | exact eTx.ob (by assumption) | exact ePa.ob (by assumption)) ⟨Nat.le_of_ble_eq_true rfl, Nat.le_of_ble_eq_true rfl⟩ rfl (Nat.le_of_ble_eq_true rfl) ⟨Nat.le_of_ble_eq_true rfl, Nat.le_of_ble_eq_true rfl⟩ (fun g_145 hg_145 => ?_)
    obtain ⟨w_145, fr_145⟩ := hg_145
    replace hR := w_145
    first | replace FR := eFr.trans FR (eFr.one fr_145 (by omega) (by omega)) | replace FR := eFr.trans FR (eFr.wide fr_145 (by omega) (by omega))
    refine ev_pop dX7_takeTurn_148 rfl ?_
    refine ev_goto (tgt := 198) dX7_takeTurn_149 (by decide) ?_
    exact ev_vret dX7_takeTurn_198 rfl rfl (by first | exact ⟨by rw [sTurn_p (by omega)]; exact hR, FR⟩ | exact ⟨by rw [sTurn_g (by omega)]; exact hR, FR⟩ | exact ⟨by rw [sTurn_c (by omega)]; exact hR, FR⟩ | exact ⟨by rw [sTurn_b (by omega)]; exact hR, FR⟩ | exact ⟨by rw [sTurn_s (by omega)]; exact hR, FR⟩ | exact ⟨by rw [sTurn_y (by omega)]; exact hR, FR⟩) (fun _ e => Option.some.inj e) (Nat.le_of_ble_eq_true rfl) (Nat.le_of_ble_eq_true rfl)
  by_cases z_9_8 : v % 16 = 8
  · refine ev_tabN (off := 125) (tgt := 134) dX7_takeTurn_9 (by rw [z_9_8]; decide) (by rw [z_9_8]; decide) (by rw [z_9_8]; decide) (by rw [z_9_8]; rfl) (by decide) ?_
    refine ev_aload_n dX7_takeTurn_134 rfl rfl ?_
    refine ev_iload_n dX7_takeTurn_135 rfl rfl ?_
    refine ev_iconst (v := nI 4) dX7_takeTurn_136 rfl ?_
    first | refine ev_iremN dX7_takeTurn_137 (by omega) (by first | assumption | omega | exact ePp.ob (by assumption) | exact eNm.ob (by assumption) | exact eRg.ob (by assumption) | exact eTx.ob (by assumption) | exact ePa.ob (by assumption)) (by omega) ?_ | refine ev_irem dX7_takeTurn_137 (by decide) ?_
    refine ev_iconst (v := nI 1) dX7_takeTurn_138 rfl ?_
    refine ev_iload_n dX7_takeTurn_139 rfl rfl ?_
    refine ev_iconst (v := nI 4) dX7_takeTurn_140 rfl ?_
    first | refine ev_idivN dX7_takeTurn_141 (by omega) (by first | assumption | omega | exact ePp.ob (by assumption) | exact eNm.ob (by assumption) | exact eRg.ob (by assumption) | exact eTx.ob (by assumption) | exact ePa.ob (by assumption)) (by omega) ?_ | refine ev_idiv dX7_takeTurn_141 (by decide) ?_
    refine ev_bipush (v := nI 8) dX7_takeTurn_142 rfl ?_
    first | refine ev_iremN dX7_takeTurn_144 (by omega) (by first | assumption | omega | exact ePp.ob (by assumption) | exact eNm.ob (by assumption) | exact eRg.ob (by assumption) | exact eTx.ob (by assumption) | exact ePa.ob (by assumption)) (by omega) ?_ | refine ev_irem dX7_takeTurn_144 (by decide) ?_
    refine ev_callVi dX7_takeTurn_145 (c_X5_callFor hR hI hT (by omega) (by decide) (by omega)) rfl lk_X7_17 (by first | assumption | omega | exact ePp.ob (by assumption) | exact eNm.ob (by assumption) | exact eRg.ob (by assumption) | exact eTx.ob (by assumption) | exact ePa.ob (by assumption)) ⟨Nat.le_of_ble_eq_true rfl, Nat.le_of_ble_eq_true rfl⟩ rfl (Nat.le_of_ble_eq_true rfl) ⟨Nat.le_of_ble_eq_true rfl, Nat.le_of_ble_eq_true rfl⟩ (fun g_145 hg_145 => ?_)
    obtain ⟨w_145, fr_145⟩ := hg_145
    replace hR := w_145
    first | replace FR := eFr.trans FR (eFr.one fr_145 (by omega) (by omega)) | replace FR := eFr.trans FR (eFr.wide fr_145 (by omega) (by omega))
    refine ev_pop dX7_takeTurn_148 rfl ?_
    refine ev_goto (tgt := 198) dX7_takeTurn_149 (by decide) ?_
    exact ev_vret dX7_takeTurn_198 rfl rfl (by first | exact ⟨by rw [sTurn_p (by omega)]; exact hR, FR⟩ | exact ⟨by rw [sTurn_g (by omega)]; exact hR, FR⟩ | exact ⟨by rw [sTurn_c (by omega)]; exact hR, FR⟩ | exact ⟨by rw [sTurn_b (by omega)]; exact hR, FR⟩ | exact ⟨by rw [sTurn_s (by omega)]; exact hR, FR⟩ | exact ⟨by rw [sTurn_y (by omega)]; exact hR, FR⟩) (fun _ e => Option.some.inj e) (Nat.le_of_ble_eq_true rfl) (Nat.le_of_ble_eq_true rfl)
  by_cases z_9_9 : v % 16 = 9
  · refine ev_tabN (off := 125) (tgt := 134) dX7_takeTurn_9 (by rw [z_9_9]; decide) (by rw [z_9_9]; decide) (by rw [z_9_9]; decide) (by rw [z_9_9]; rfl) (by decide) ?_
    refine ev_aload_n dX7_takeTurn_134 rfl rfl ?_
    refine ev_iload_n dX7_takeTurn_135 rfl rfl ?_
    refine ev_iconst (v := nI 4) dX7_takeTurn_136 rfl ?_
    first | refine ev_iremN dX7_takeTurn_137 (by omega) (by first | assumption | omega | exact ePp.ob (by assumption) | exact eNm.ob (by assumption) | exact eRg.ob (by assumption) | exact eTx.ob (by assumption) | exact ePa.ob (by assumption)) (by omega) ?_ | refine ev_irem dX7_takeTurn_137 (by decide) ?_
    refine ev_iconst (v := nI 1) dX7_takeTurn_138 rfl ?_
    refine ev_iload_n dX7_takeTurn_139 rfl rfl ?_
    refine ev_iconst (v := nI 4) dX7_takeTurn_140 rfl ?_
    first | refine ev_idivN dX7_takeTurn_141 (by omega) (by first | assumption | omega | exact ePp.ob (by assumption) | exact eNm.ob (by assumption) | exact eRg.ob (by assumption) | exact eTx.ob (by assumption) | exact ePa.ob (by assumption)) (by omega) ?_ | refine ev_idiv dX7_takeTurn_141 (by decide) ?_
    refine ev_bipush (v := nI 8) dX7_takeTurn_142 rfl ?_
    first | refine ev_iremN dX7_takeTurn_144 (by omega) (by first | assumption | omega | exact ePp.ob (by assumption) | exact eNm.ob (by assumption) | exact eRg.ob (by assumption) | exact eTx.ob (by assumption) | exact ePa.ob (by assumption)) (by omega) ?_ | refine ev_irem dX7_takeTurn_144 (by decide) ?_
    refine ev_callVi dX7_takeTurn_145 (c_X5_callFor hR hI hT (by omega) (by decide) (by omega)) rfl lk_X7_17 (by first | assumption | omega | exact ePp.ob (by assumption) | exact eNm.ob (by assumption) | exact eRg.ob (by assumption) | exact eTx.ob (by assumption) | exact ePa.ob (by assumption)) ⟨Nat.le_of_ble_eq_true rfl, Nat.le_of_ble_eq_true rfl⟩ rfl (Nat.le_of_ble_eq_true rfl) ⟨Nat.le_of_ble_eq_true rfl, Nat.le_of_ble_eq_true rfl⟩ (fun g_145 hg_145 => ?_)
    obtain ⟨w_145, fr_145⟩ := hg_145
    replace hR := w_145
    first | replace FR := eFr.trans FR (eFr.one fr_145 (by omega) (by omega)) | replace FR := eFr.trans FR (eFr.wide fr_145 (by omega) (by omega))
    refine ev_pop dX7_takeTurn_148 rfl ?_
    refine ev_goto (tgt := 198) dX7_takeTurn_149 (by decide) ?_
    exact ev_vret dX7_takeTurn_198 rfl rfl (by first | exact ⟨by rw [sTurn_p (by omega)]; exact hR, FR⟩ | exact ⟨by rw [sTurn_g (by omega)]; exact hR, FR⟩ | exact ⟨by rw [sTurn_c (by omega)]; exact hR, FR⟩ | exact ⟨by rw [sTurn_b (by omega)]; exact hR, FR⟩ | exact ⟨by rw [sTurn_s (by omega)]; exact hR, FR⟩ | exact ⟨by rw [sTurn_y (by omega)]; exact hR, FR⟩) (fun _ e => Option.some.inj e) (Nat.le_of_ble_eq_true rfl) (Nat.le_of_ble_eq_true rfl)
  by_cases z_9_10 : v % 16 = 10
  · refine ev_tabN (off := 125) (tgt := 134) dX7_takeTurn_9 (by rw [z_9_10]; decide) (by rw [z_9_10]; decide) (by rw [z_9_10]; decide) (by rw [z_9_10]; rfl) (by decide) ?_
    refine ev_aload_n dX7_takeTurn_134 rfl rfl ?_
    refine ev_iload_n dX7_takeTurn_135 rfl rfl ?_
    refine ev_iconst (v := nI 4) dX7_takeTurn_136 rfl ?_
    first | refine ev_iremN dX7_takeTurn_137 (by omega) (by first | assumption | omega | exact ePp.ob (by assumption) | exact eNm.ob (by assumption) | exact eRg.ob (by assumption) | exact eTx.ob (by assumption) | exact ePa.ob (by assumption)) (by omega) ?_ | refine ev_irem dX7_takeTurn_137 (by decide) ?_
    refine ev_iconst (v := nI 1) dX7_takeTurn_138 rfl ?_
    refine ev_iload_n dX7_takeTurn_139 rfl rfl ?_
    refine ev_iconst (v := nI 4) dX7_takeTurn_140 rfl ?_
    first | refine ev_idivN dX7_takeTurn_141 (by omega) (by first | assumption | omega | exact ePp.ob (by assumption) | exact eNm.ob (by assumption) | exact eRg.ob (by assumption) | exact eTx.ob (by assumption) | exact ePa.ob (by assumption)) (by omega) ?_ | refine ev_idiv dX7_takeTurn_141 (by decide) ?_
    refine ev_bipush (v := nI 8) dX7_takeTurn_142 rfl ?_
    first | refine ev_iremN dX7_takeTurn_144 (by omega) (by first | assumption | omega | exact ePp.ob (by assumption) | exact eNm.ob (by assumption) | exact eRg.ob (by assumption) | exact eTx.ob (by assumption) | exact ePa.ob (by assumption)) (by omega) ?_ | refine ev_irem dX7_takeTurn_144 (by decide) ?_
    refine ev_callVi dX7_takeTurn_145 (c_X5_callFor hR hI hT (by omega) (by decide) (by omega)) rfl lk_X7_17 (by first | assumption | omega | exact ePp.ob (by assumption) | exact eNm.ob (by assumption) | exact eRg.ob (by assumption) | exact eTx.ob (by assumption) | exact ePa.ob (by assumption)) ⟨Nat.le_of_ble_eq_true rfl, Nat.le_of_ble_eq_true rfl⟩ rfl (Nat.le_of_ble_eq_true rfl) ⟨Nat.le_of_ble_eq_true rfl, Nat.le_of_ble_eq_true rfl⟩ (fun g_145 hg_145 => ?_)
    obtain ⟨w_145, fr_145⟩ := hg_145
    replace hR := w_145
    first | replace FR := eFr.trans FR (eFr.one fr_145 (by omega) (by omega)) | replace FR := eFr.trans FR (eFr.wide fr_145 (by omega) (by omega))
    refine ev_pop dX7_takeTurn_148 rfl ?_
    refine ev_goto (tgt := 198) dX7_takeTurn_149 (by decide) ?_
    exact ev_vret dX7_takeTurn_198 rfl rfl (by first | exact ⟨by rw [sTurn_p (by omega)]; exact hR, FR⟩ | exact ⟨by rw [sTurn_g (by omega)]; exact hR, FR⟩ | exact ⟨by rw [sTurn_c (by omega)]; exact hR, FR⟩ | exact ⟨by rw [sTurn_b (by omega)]; exact hR, FR⟩ | exact ⟨by rw [sTurn_s (by omega)]; exact hR, FR⟩ | exact ⟨by rw [sTurn_y (by omega)]; exact hR, FR⟩) (fun _ e => Option.some.inj e) (Nat.le_of_ble_eq_true rfl) (Nat.le_of_ble_eq_true rfl)
  by_cases z_9_11 : v % 16 = 11
  · refine ev_tabN (off := 125) (tgt := 134) dX7_takeTurn_9 (by rw [z_9_11]; decide) (by rw [z_9_11]; decide) (by rw [z_9_11]; decide) (by rw [z_9_11]; rfl) (by decide) ?_
    refine ev_aload_n dX7_takeTurn_134 rfl rfl ?_
    refine ev_iload_n dX7_takeTurn_135 rfl rfl ?_
    refine ev_iconst (v := nI 4) dX7_takeTurn_136 rfl ?_
    first | refine ev_iremN dX7_takeTurn_137 (by omega) (by first | assumption | omega | exact ePp.ob (by assumption) | exact eNm.ob (by assumption) | exact eRg.ob (by assumption) | exact eTx.ob (by assumption) | exact ePa.ob (by assumption)) (by omega) ?_ | refine ev_irem dX7_takeTurn_137 (by decide) ?_
    refine ev_iconst (v := nI 1) dX7_takeTurn_138 rfl ?_
    refine ev_iload_n dX7_takeTurn_139 rfl rfl ?_
    refine ev_iconst (v := nI 4) dX7_takeTurn_140 rfl ?_
    first | refine ev_idivN dX7_takeTurn_141 (by omega) (by first | assumption | omega | exact ePp.ob (by assumption) | exact eNm.ob (by assumption) | exact eRg.ob (by assumption) | exact eTx.ob (by assumption) | exact ePa.ob (by assumption)) (by omega) ?_ | refine ev_idiv dX7_takeTurn_141 (by decide) ?_
    refine ev_bipush (v := nI 8) dX7_takeTurn_142 rfl ?_
    first | refine ev_iremN dX7_takeTurn_144 (by omega) (by first | assumption | omega | exact ePp.ob (by assumption) | exact eNm.ob (by assumption) | exact eRg.ob (by assumption) | exact eTx.ob (by assumption) | exact ePa.ob (by assumption)) (by omega) ?_ | refine ev_irem dX7_takeTurn_144 (by decide) ?_
    refine ev_callVi dX7_takeTurn_145 (c_X5_callFor hR hI hT (by omega) (by decide) (by omega)) rfl lk_X7_17 (by first | assumption | omega | exact ePp.ob (by assumption) | exact eNm.ob (by assumption) | exact eRg.ob (by assumption) | exact eTx.ob (by assumption) | exact ePa.ob (by assumption)) ⟨Nat.le_of_ble_eq_true rfl, Nat.le_of_ble_eq_true rfl⟩ rfl (Nat.le_of_ble_eq_true rfl) ⟨Nat.le_of_ble_eq_true rfl, Nat.le_of_ble_eq_true rfl⟩ (fun g_145 hg_145 => ?_)
    obtain ⟨w_145, fr_145⟩ := hg_145
    replace hR := w_145
    first | replace FR := eFr.trans FR (eFr.one fr_145 (by omega) (by omega)) | replace FR := eFr.trans FR (eFr.wide fr_145 (by omega) (by omega))
    refine ev_pop dX7_takeTurn_148 rfl ?_
    refine ev_goto (tgt := 198) dX7_takeTurn_149 (by decide) ?_
    exact ev_vret dX7_takeTurn_198 rfl rfl (by first | exact ⟨by rw [sTurn_p (by omega)]; exact hR, FR⟩ | exact ⟨by rw [sTurn_g (by omega)]; exact hR, FR⟩ | exact ⟨by rw [sTurn_c (by omega)]; exact hR, FR⟩ | exact ⟨by rw [sTurn_b (by omega)]; exact hR, FR⟩ | exact ⟨by rw [sTurn_s (by omega)]; exact hR, FR⟩ | exact ⟨by rw [sTurn_y (by omega)]; exact hR, FR⟩) (fun _ e => Option.some.inj e) (Nat.le_of_ble_eq_true rfl) (Nat.le_of_ble_eq_true rfl)
  by_cases z_9_12 : v % 16 = 12
  · refine ev_tabN (off := 143) (tgt := 152) dX7_takeTurn_9 (by rw [z_9_12]; decide) (by rw [z_9_12]; decide) (by rw [z_9_12]; decide) (by rw [z_9_12]; rfl) (by decide) ?_
    refine ev_aload_n dX7_takeTurn_152 rfl rfl ?_
    refine ev_iload_n dX7_takeTurn_153 rfl rfl ?_
    refine ev_bipush (v := nI 12) dX7_takeTurn_154 rfl ?_
    first | refine ev_iremN dX7_takeTurn_156 (by omega) (by first | assumption | omega | exact ePp.ob (by assumption) | exact eNm.ob (by assumption) | exact eRg.ob (by assumption) | exact eTx.ob (by assumption) | exact ePa.ob (by assumption)) (by omega) ?_ | refine ev_irem dX7_takeTurn_156 (by decide) ?_
    refine ev_iload_n dX7_takeTurn_157 rfl rfl ?_
    refine ev_bipush (v := nI 16) dX7_takeTurn_158 rfl ?_
    first | refine ev_idivN dX7_takeTurn_160 (by omega) (by first | assumption | omega | exact ePp.ob (by assumption) | exact eNm.ob (by assumption) | exact eRg.ob (by assumption) | exact eTx.ob (by assumption) | exact ePa.ob (by assumption)) (by omega) ?_ | refine ev_idiv dX7_takeTurn_160 (by decide) ?_
    refine ev_iconst (v := nI 4) dX7_takeTurn_161 rfl ?_
    first | refine ev_iremN dX7_takeTurn_162 (by omega) (by first | assumption | omega | exact ePp.ob (by assumption) | exact eNm.ob (by assumption) | exact eRg.ob (by assumption) | exact eTx.ob (by assumption) | exact ePa.ob (by assumption)) (by omega) ?_ | refine ev_irem dX7_takeTurn_162 (by decide) ?_
    refine ev_callVi dX7_takeTurn_163 (c_X5_triesSitting hR hI hT (by omega) (by omega)) rfl lk_X7_21 (by first | assumption | omega | exact ePp.ob (by assumption) | exact eNm.ob (by assumption) | exact eRg.ob (by assumption) | exact eTx.ob (by assumption) | exact ePa.ob (by assumption)) ⟨Nat.le_of_ble_eq_true rfl, Nat.le_of_ble_eq_true rfl⟩ rfl (Nat.le_of_ble_eq_true rfl) ⟨Nat.le_of_ble_eq_true rfl, Nat.le_of_ble_eq_true rfl⟩ (fun g_163 hg_163 => ?_)
    obtain ⟨w_163, fr_163⟩ := hg_163
    replace hR := w_163
    first | replace FR := eFr.trans FR (eFr.one fr_163 (by omega) (by omega)) | replace FR := eFr.trans FR (eFr.wide fr_163 (by omega) (by omega))
    refine ev_pop dX7_takeTurn_166 rfl ?_
    refine ev_goto (tgt := 198) dX7_takeTurn_167 (by decide) ?_
    exact ev_vret dX7_takeTurn_198 rfl rfl (by first | exact ⟨by rw [sTurn_p (by omega)]; exact hR, FR⟩ | exact ⟨by rw [sTurn_g (by omega)]; exact hR, FR⟩ | exact ⟨by rw [sTurn_c (by omega)]; exact hR, FR⟩ | exact ⟨by rw [sTurn_b (by omega)]; exact hR, FR⟩ | exact ⟨by rw [sTurn_s (by omega)]; exact hR, FR⟩ | exact ⟨by rw [sTurn_y (by omega)]; exact hR, FR⟩) (fun _ e => Option.some.inj e) (Nat.le_of_ble_eq_true rfl) (Nat.le_of_ble_eq_true rfl)
  by_cases z_9_13 : v % 16 = 13
  · refine ev_tabN (off := 161) (tgt := 170) dX7_takeTurn_9 (by rw [z_9_13]; decide) (by rw [z_9_13]; decide) (by rw [z_9_13]; decide) (by rw [z_9_13]; rfl) (by decide) ?_
    refine ev_aload_n dX7_takeTurn_170 rfl rfl ?_
    refine ev_iload_n dX7_takeTurn_171 rfl rfl ?_
    refine ev_iconst (v := nI 3) dX7_takeTurn_172 rfl ?_
    first | refine ev_iremN dX7_takeTurn_173 (by omega) (by first | assumption | omega | exact ePp.ob (by assumption) | exact eNm.ob (by assumption) | exact eRg.ob (by assumption) | exact eTx.ob (by assumption) | exact ePa.ob (by assumption)) (by omega) ?_ | refine ev_irem dX7_takeTurn_173 (by decide) ?_
    refine ev_iconst (v := nI 1) dX7_takeTurn_174 rfl ?_
    refine ev_iload_n dX7_takeTurn_175 rfl rfl ?_
    refine ev_iconst (v := nI 4) dX7_takeTurn_176 rfl ?_
    first | refine ev_idivN dX7_takeTurn_177 (by omega) (by first | assumption | omega | exact ePp.ob (by assumption) | exact eNm.ob (by assumption) | exact eRg.ob (by assumption) | exact eTx.ob (by assumption) | exact ePa.ob (by assumption)) (by omega) ?_ | refine ev_idiv dX7_takeTurn_177 (by decide) ?_
    refine ev_iconst (v := nI 4) dX7_takeTurn_178 rfl ?_
    first | refine ev_iremN dX7_takeTurn_179 (by omega) (by first | assumption | omega | exact ePp.ob (by assumption) | exact eNm.ob (by assumption) | exact eRg.ob (by assumption) | exact eTx.ob (by assumption) | exact ePa.ob (by assumption)) (by omega) ?_ | refine ev_irem dX7_takeTurn_179 (by decide) ?_
    first | refine ev_iaddN dX7_takeTurn_180 ?_ | refine ev_iadd dX7_takeTurn_180 ?_
    refine ev_callVi dX7_takeTurn_181 (c_X5_triesSetting hR (by omega) (by omega)) rfl lk_X7_25 (by first | assumption | omega | exact ePp.ob (by assumption) | exact eNm.ob (by assumption) | exact eRg.ob (by assumption) | exact eTx.ob (by assumption) | exact ePa.ob (by assumption)) ⟨Nat.le_of_ble_eq_true rfl, Nat.le_of_ble_eq_true rfl⟩ rfl (Nat.le_of_ble_eq_true rfl) ⟨Nat.le_of_ble_eq_true rfl, Nat.le_of_ble_eq_true rfl⟩ (fun g_181 hg_181 => ?_)
    obtain ⟨w_181, fr_181⟩ := hg_181
    replace hR := w_181
    first | replace FR := eFr.trans FR (eFr.one fr_181 (by omega) (by omega)) | replace FR := eFr.trans FR (eFr.wide fr_181 (by omega) (by omega))
    refine ev_pop dX7_takeTurn_184 rfl ?_
    refine ev_goto (tgt := 198) dX7_takeTurn_185 (by decide) ?_
    exact ev_vret dX7_takeTurn_198 rfl rfl (by first | exact ⟨by rw [sTurn_p (by omega)]; exact hR, FR⟩ | exact ⟨by rw [sTurn_g (by omega)]; exact hR, FR⟩ | exact ⟨by rw [sTurn_c (by omega)]; exact hR, FR⟩ | exact ⟨by rw [sTurn_b (by omega)]; exact hR, FR⟩ | exact ⟨by rw [sTurn_s (by omega)]; exact hR, FR⟩ | exact ⟨by rw [sTurn_y (by omega)]; exact hR, FR⟩) (fun _ e => Option.some.inj e) (Nat.le_of_ble_eq_true rfl) (Nat.le_of_ble_eq_true rfl)
  refine ev_tabOutN (tgt := 188) dX7_takeTurn_9 (by omega) (by omega) (by decide) ?_
  refine ev_aload_n dX7_takeTurn_188 rfl rfl ?_
  refine ev_iconst (v := nI 1) dX7_takeTurn_189 rfl ?_
  refine ev_iload_n dX7_takeTurn_190 rfl rfl ?_
  refine ev_iconst (v := nI 2) dX7_takeTurn_191 rfl ?_
  first | refine ev_iremN dX7_takeTurn_192 (by omega) (by first | assumption | omega | exact ePp.ob (by assumption) | exact eNm.ob (by assumption) | exact eRg.ob (by assumption) | exact eTx.ob (by assumption) | exact ePa.ob (by assumption)) (by omega) ?_ | refine ev_irem dX7_takeTurn_192 (by decide) ?_
  first | refine ev_iaddN dX7_takeTurn_193 ?_ | refine ev_iadd dX7_takeTurn_193 ?_
  refine ev_callVi dX7_takeTurn_194 (c_X5_passYears hR hI hT (by omega)) rfl lk_X7_28 (by first | assumption | omega | exact ePp.ob (by assumption) | exact eNm.ob (by assumption) | exact eRg.ob (by assumption) | exact eTx.ob (by assumption) | exact ePa.ob (by assumption)) ⟨Nat.le_of_ble_eq_true rfl, Nat.le_of_ble_eq_true rfl⟩ rfl (Nat.le_of_ble_eq_true rfl) ⟨Nat.le_of_ble_eq_true rfl, Nat.le_of_ble_eq_true rfl⟩ (fun g_194 hg_194 => ?_)
  obtain ⟨w_194, fr_194⟩ := hg_194
  replace hR := w_194
  first | replace FR := eFr.trans FR (eFr.one fr_194 (by omega) (by omega)) | replace FR := eFr.trans FR (eFr.wide fr_194 (by omega) (by omega))
  refine ev_pop dX7_takeTurn_197 rfl ?_
  exact ev_vret dX7_takeTurn_198 rfl rfl (by first | exact ⟨by rw [sTurn_p (by omega)]; exact hR, FR⟩ | exact ⟨by rw [sTurn_g (by omega)]; exact hR, FR⟩ | exact ⟨by rw [sTurn_c (by omega)]; exact hR, FR⟩ | exact ⟨by rw [sTurn_b (by omega)]; exact hR, FR⟩ | exact ⟨by rw [sTurn_s (by omega)]; exact hR, FR⟩ | exact ⟨by rw [sTurn_y (by omega)]; exact hR, FR⟩) (fun _ e => Option.some.inj e) (Nat.le_of_ble_eq_true rfl) (Nat.le_of_ble_eq_true rfl)

